-- ===== X1_endedAmong
def wjX1_endedAmong_106 (p1 : Int32) (Q : Int32 → pt_M → Prop) (R9 : Int32 → Int32 → pt_M → Prop) (x2 : Int32) (x3 : Int32) (M : pt_M) : Prop :=
  ∀ x3_106 : Int32, x3_106 = x3 + (-1) → R9 x2 x3_106 M
def wjX1_endedAmong_99 (p1 : Int32) (Q : Int32 → pt_M → Prop) (R9 : Int32 → Int32 → pt_M → Prop) (x2 : Int32) (x3 : Int32) (M : pt_M) : Prop :=
  wpX7_setOf x3 M (fun (r_101 : Int32) (M_101 : pt_M) => ∀ x2_105 : Int32, x2_105 = (x2 ||| r_101) → wjX1_endedAmong_106 p1 Q R9 x2_105 x3 M_101)
def wjX1_endedAmong_87 (p1 : Int32) (Q : Int32 → pt_M → Prop) (R9 : Int32 → Int32 → pt_M → Prop) (x2 : Int32) (x3 : Int32) (x5 : Int32) (xs0 : Int32) (M : pt_M) : Prop :=
  (¬ x5 = 0 → wjX1_endedAmong_99 p1 Q R9 x2 x3 M) ∧ (x5 = 0 → (xs0 = 0 → wjX1_endedAmong_106 p1 Q R9 x2 x3 M) ∧ (¬ xs0 = 0 → wjX1_endedAmong_99 p1 Q R9 x2 x3 M))
def wjX1_endedAmong_86 (p1 : Int32) (Q : Int32 → pt_M → Prop) (R9 : Int32 → Int32 → pt_M → Prop) (x2 : Int32) (x3 : Int32) (x5 : Int32) (M : pt_M) : Prop :=
  wjX1_endedAmong_87 p1 Q R9 x2 x3 x5 0 M
def wjX1_endedAmong_53 (p1 : Int32) (Q : Int32 → pt_M → Prop) (R9 : Int32 → Int32 → pt_M → Prop) (x2 : Int32) (x3 : Int32) (x4 : Int32) (xs0 : Int32) (M : pt_M) : Prop :=
  vp_in x3 20 ∧ ((¬ (M (pt_s x3) 2) = 1 → wjX1_endedAmong_86 p1 Q R9 x2 x3 xs0 M) ∧ ((M (pt_s x3) 2) = 1 → (x4 = 0 → wjX1_endedAmong_86 p1 Q R9 x2 x3 xs0 M) ∧ (¬ x4 = 0 → (¬ (x4 &&& (x2 ^^^ (-1))) = 0 → wjX1_endedAmong_86 p1 Q R9 x2 x3 xs0 M) ∧ ((x4 &&& (x2 ^^^ (-1))) = 0 → wjX1_endedAmong_87 p1 Q R9 x2 x3 xs0 1 M))))
def wjX1_endedAmong_52 (p1 : Int32) (Q : Int32 → pt_M → Prop) (R9 : Int32 → Int32 → pt_M → Prop) (x2 : Int32) (x3 : Int32) (x4 : Int32) (M : pt_M) : Prop :=
  wjX1_endedAmong_53 p1 Q R9 x2 x3 x4 0 M
def lbX1_endedAmong_9 (p1 : Int32) (Q : Int32 → pt_M → Prop)  (R9 : Int32 → Int32 → pt_M → Prop) (x2 : Int32) (x3 : Int32) (M : pt_M) : Prop :=
  (x3 < 0 → Q x2 M) ∧ (¬ x3 < 0 → vp_in x3 20 ∧ (∀ x4_22 : Int32, x4_22 = (M (pt_s x3) 5) → vp_in x3 20 ∧ ((¬ (M (pt_s x3) 2) = 0 → wjX1_endedAmong_52 p1 Q R9 x2 x3 x4_22 M) ∧ ((M (pt_s x3) 2) = 0 → (((x4_22 &&& (M 1 6)) &&& p1) = 0 → wjX1_endedAmong_52 p1 Q R9 x2 x3 x4_22 M) ∧ (¬ ((x4_22 &&& (M 1 6)) &&& p1) = 0 → wjX1_endedAmong_53 p1 Q R9 x2 x3 x4_22 1 M)))))
def lpX1_endedAmong_9 (p1 : Int32) (Q : Int32 → pt_M → Prop)  : Nat → Int32 → Int32 → pt_M → Prop
  | 0 => fun _ _ _ => False
  | n + 1 => fun x2 x3 M => lbX1_endedAmong_9 p1 Q (lpX1_endedAmong_9 p1 Q n) x2 x3 M
def wpX1_endedAmong (p1 : Int32) (M : pt_M) (Q : Int32 → pt_M → Prop) : Prop :=
  ∀ x3_8 : Int32, x3_8 = ((M 1 3) - 1) → ∃ n : Nat, lpX1_endedAmong_9 p1 Q n 0 x3_8 M
set_option maxHeartbeats 4000000 in
set_option maxRecDepth 100000 in
theorem mtX1_endedAmong (l : Launch) (D : va_G) (cA : Nat → ClassId) (ad : Nat → Nat) (hI : pt_I ad) (sz : Nat) (p1 : Int32) (M : pt_M) (Q : Int32 → pt_M → Prop) (hw : wpX1_endedAmong p1 M Q) : Met l yX1_endedAmong (Cond.code yX1_endedAmong cX1_endedAmong 7 (some .int) :: lw_all) ({ frames := 1, cells := 0, slots := 0, locals := 20 } : Room) (va_Pc [.ref (ad 1), .int p1] (pt_P D cA ad sz M)) (va_Qi Q (pt_B D cA ad) (pt_fr ad sz)) 0 0 (pt_fr ad sz) := by
  refine Met.ofW (cc := cX1_endedAmong) (maxL := 7) (ret := (some .int)) (by decide) rfl ?_
  intro p e s m args below meth c s₁ B hml hv
  obtain ⟨rfl, hsz, hP, hK⟩ := hv
  have hx := B.exec
  have hb := B.bytes
  have hr := B.returns
  have hts0 := atoms_spec (ws := (Cond.code yX1_endedAmong cX1_endedAmong 7 (some .int) :: lw_all)) B.pre
  have hown : s.vm.findClass RX1 = some m.cls := findClass_of_methodNamed B.named
  have hlocks := B.notSynchronized
  subst hsz
  have F : pt_F p m c cX1_endedAmong 7 s _ RX1 D cA := ⟨⟨hx, hb, hml, hown, fun w h => hts0 w (List.mem_cons_of_mem _ h)⟩, hK⟩
  have hD : ∀ M, va_D (pt_fr ad s.heap.size) (pt_W cA ad M) := pt_D hI (fun k h => Or.inl ⟨k, h, rfl⟩)
  have hS : va_S (pt_fr ad s.heap.size) s.heap s.heap [] := va_S.rf
  have hl := lv_entry ([.ref (ad 1), .int p1]) (n := 7) (Nat.le_of_ble_eq_true rfl)
  rw [lg_entry_eq]
  generalize (lg_sl ([.ref (ad 1), .int p1]) ++ List.replicate (7 - (lg_sl ([.ref (ad 1), .int p1])).length) Slot.unset).toArray = ls at hl ⊢
  have hl : lv_has ls 7 [(0, .ref (ad 1)), (1, .int p1)] := hl
  have L9 : ∀ (n9 : Nat) (x2 : Int32) (x3 : Int32) (M : pt_M) (H : Heap) (locs : List Loc) (ls : Array Slot), lpX1_endedAmong_9 p1 Q n9 x2 x3 M → va_P D pt_cl (pt_W cA ad M) H → va_S (pt_fr ad s.heap.size) s.heap H locs → lv_has ls 7 [(0, .ref (ad 1)), (1, .int p1), (2, .int x2), (3, .int x3)] → W p l e (headSpec (Cond.code yX1_endedAmong cX1_endedAmong 7 (some .int) :: lw_all) ({ frames := 1, cells := 0, slots := 0, locals := 20 } : Room)).room s m ([.ref (ad 1), .int p1] : List Value).toArray below meth c H locs 0 0 (MQ below (va_Qi Q (pt_B D cA ad) (pt_fr ad s.heap.size)) ([.ref (ad 1), .int p1] : List Value).toArray s 0 0 (pt_fr ad s.heap.size)) (F0 m 9 ls []) := by
    intro n9
    induction n9 with
    | zero => intro x2 x3 M H locs ls hw; exact hw.elim
    | succ n9 ih9 =>
      have J106 : ∀ (x2 : Int32) (x3 : Int32) (M : pt_M) (H : Heap) (locs : List Loc) (ls : Array Slot), wjX1_endedAmong_106 p1 Q (lpX1_endedAmong_9 p1 Q n9) x2 x3 M → va_P D pt_cl (pt_W cA ad M) H → va_S (pt_fr ad s.heap.size) s.heap H locs → lv_has ls 7 [(0, .ref (ad 1)), (1, .int p1), (2, .int x2), (3, .int x3)] → W p l e (headSpec (Cond.code yX1_endedAmong cX1_endedAmong 7 (some .int) :: lw_all) ({ frames := 1, cells := 0, slots := 0, locals := 20 } : Room)).room s m ([.ref (ad 1), .int p1] : List Value).toArray below meth c H locs 0 0 (MQ below (va_Qi Q (pt_B D cA ad) (pt_fr ad s.heap.size)) ([.ref (ad 1), .int p1] : List Value).toArray s 0 0 (pt_fr ad s.heap.size)) (F0 m 106 ls []) := by
        intro x2 x3 M H locs ls hw hP hS hl
        unfold wjX1_endedAmong_106 at hw
        obtain ⟨x3_106, ex3_106⟩ : ∃ y : Int32, y = x3 + (-1) := ⟨_, rfl⟩
        replace hw := hw x3_106 ex3_106
        refine lv_iinc (v := x3_106) (lv' := [(3, .int x3_106), (0, .ref (ad 1)), (1, .int p1), (2, .int x2)]) hx hb dX1_endedAmong_106 hl (k := 3) rfl (by rw [ex3_106]; rfl) (by decide) rfl (fun ls hl => ?_)
        refine lv_goto (tgt := 9) hx hb dX1_endedAmong_109 (by decide) ?_
        exact ih9 x2 x3_106 M _ _ _ hw hP hS (lv_sub hl [1, 2, 3, 0] rfl)
      have J99 : ∀ (x2 : Int32) (x3 : Int32) (M : pt_M) (H : Heap) (locs : List Loc) (ls : Array Slot), wjX1_endedAmong_99 p1 Q (lpX1_endedAmong_9 p1 Q n9) x2 x3 M → va_P D pt_cl (pt_W cA ad M) H → va_S (pt_fr ad s.heap.size) s.heap H locs → lv_has ls 7 [(0, .ref (ad 1)), (1, .int p1), (2, .int x2), (3, .int x3)] → W p l e (headSpec (Cond.code yX1_endedAmong cX1_endedAmong 7 (some .int) :: lw_all) ({ frames := 1, cells := 0, slots := 0, locals := 20 } : Room)).room s m ([.ref (ad 1), .int p1] : List Value).toArray below meth c H locs 0 0 (MQ below (va_Qi Q (pt_B D cA ad) (pt_fr ad s.heap.size)) ([.ref (ad 1), .int p1] : List Value).toArray s 0 0 (pt_fr ad s.heap.size)) (F0 m 99 ls []) := by
        intro x2 x3 M H locs ls hw hP hS hl
        unfold wjX1_endedAmong_99 at hw
        refine lv_iload_n hx hb dX1_endedAmong_99 rfl (lv_at hl 2 rfl) ?_
        refine lv_iload_n hx hb dX1_endedAmong_100 rfl (lv_at hl 3 rfl) ?_
        refine pt_calli (pt_runSN (n := 1) (As := [.int x3]) (rest := [.int x2]) F hP (mtX7_setOf l D cA ad hI _ x3 M _ hw) kw_103 kw_101 kw_52 kw_102 ⟨by decide, by decide, by decide +kernel⟩ ⟨rfl, rfl, Nat.le_of_ble_eq_true rfl, Nat.le_of_ble_eq_true rfl⟩ rfl hl.1 rfl (Nat.le_of_ble_eq_true rfl) dX1_endedAmong_101 ⟨Nat.zero_le _, Nat.zero_le _⟩) hS (fun _ h => h) (fun r_101 M_101 H locs hw hP hS _ _ => ?_)
        refine lv_ior hx hb dX1_endedAmong_104 ?_
        refine lv_topi (fun x2_105 ex2_105 => ?_)
        replace hw := hw x2_105 ex2_105
        refine lv_istore_n (lv' := [(2, .int x2_105), (0, .ref (ad 1)), (1, .int p1), (3, .int x3)]) hx hb dX1_endedAmong_105 rfl hl (by decide) rfl (fun ls hl => ?_)
        exact J106 x2_105 x3 M_101 _ _ _ hw hP hS (lv_sub hl [1, 2, 0, 3] rfl)
      have J87 : ∀ (x2 : Int32) (x3 : Int32) (x5 : Int32) (xs0 : Int32) (M : pt_M) (H : Heap) (locs : List Loc) (ls : Array Slot), wjX1_endedAmong_87 p1 Q (lpX1_endedAmong_9 p1 Q n9) x2 x3 x5 xs0 M → va_P D pt_cl (pt_W cA ad M) H → va_S (pt_fr ad s.heap.size) s.heap H locs → lv_has ls 7 [(0, .ref (ad 1)), (1, .int p1), (2, .int x2), (3, .int x3), (5, .int x5)] → W p l e (headSpec (Cond.code yX1_endedAmong cX1_endedAmong 7 (some .int) :: lw_all) ({ frames := 1, cells := 0, slots := 0, locals := 20 } : Room)).room s m ([.ref (ad 1), .int p1] : List Value).toArray below meth c H locs 0 0 (MQ below (va_Qi Q (pt_B D cA ad) (pt_fr ad s.heap.size)) ([.ref (ad 1), .int p1] : List Value).toArray s 0 0 (pt_fr ad s.heap.size)) (F0 m 87 ls [.int xs0]) := by
        intro x2 x3 x5 xs0 M H locs ls hw hP hS hl
        unfold wjX1_endedAmong_87 at hw
        refine lv_istore (lv' := [(6, .int xs0), (0, .ref (ad 1)), (1, .int p1), (2, .int x2), (3, .int x3), (5, .int x5)]) hx hb dX1_endedAmong_87 hl (by decide) rfl (fun ls hl => ?_)
        refine lv_iload hx hb dX1_endedAmong_89 (lv_at hl 5 rfl) ?_
        refine lv_if_ne (tgt := 99) hx hb dX1_endedAmong_91 (by decide) (fun hc91 => ?_) (fun hc91 => ?_)
        · replace hw := hw.1 hc91
          exact J99 x2 x3 M _ _ _ hw hP hS (lv_sub hl [1, 2, 3, 4] rfl)
        · replace hw := hw.2 hc91
          refine lv_iload hx hb dX1_endedAmong_94 (lv_at hl 0 rfl) ?_
          refine lv_if_eq (tgt := 106) hx hb dX1_endedAmong_96 (by decide) (fun hc96 => ?_) (fun hc96 => ?_)
          · replace hw := hw.1 hc96
            exact J106 x2 x3 M _ _ _ hw hP hS (lv_sub hl [1, 2, 3, 4] rfl)
          · replace hw := hw.2 hc96
            exact J99 x2 x3 M _ _ _ hw hP hS (lv_sub hl [1, 2, 3, 4] rfl)
      have J86 : ∀ (x2 : Int32) (x3 : Int32) (x5 : Int32) (M : pt_M) (H : Heap) (locs : List Loc) (ls : Array Slot), wjX1_endedAmong_86 p1 Q (lpX1_endedAmong_9 p1 Q n9) x2 x3 x5 M → va_P D pt_cl (pt_W cA ad M) H → va_S (pt_fr ad s.heap.size) s.heap H locs → lv_has ls 7 [(0, .ref (ad 1)), (1, .int p1), (2, .int x2), (3, .int x3), (5, .int x5)] → W p l e (headSpec (Cond.code yX1_endedAmong cX1_endedAmong 7 (some .int) :: lw_all) ({ frames := 1, cells := 0, slots := 0, locals := 20 } : Room)).room s m ([.ref (ad 1), .int p1] : List Value).toArray below meth c H locs 0 0 (MQ below (va_Qi Q (pt_B D cA ad) (pt_fr ad s.heap.size)) ([.ref (ad 1), .int p1] : List Value).toArray s 0 0 (pt_fr ad s.heap.size)) (F0 m 86 ls []) := by
        intro x2 x3 x5 M H locs ls hw hP hS hl
        unfold wjX1_endedAmong_86 at hw
        refine lv_iconst (v := 0) hx hb dX1_endedAmong_86 (by decide) ?_
        exact J87 x2 x3 x5 0 M _ _ _ hw hP hS (lv_sub hl [0, 1, 2, 3, 4] rfl)
      have J53 : ∀ (x2 : Int32) (x3 : Int32) (x4 : Int32) (xs0 : Int32) (M : pt_M) (H : Heap) (locs : List Loc) (ls : Array Slot), wjX1_endedAmong_53 p1 Q (lpX1_endedAmong_9 p1 Q n9) x2 x3 x4 xs0 M → va_P D pt_cl (pt_W cA ad M) H → va_S (pt_fr ad s.heap.size) s.heap H locs → lv_has ls 7 [(0, .ref (ad 1)), (1, .int p1), (2, .int x2), (3, .int x3), (4, .int x4)] → W p l e (headSpec (Cond.code yX1_endedAmong cX1_endedAmong 7 (some .int) :: lw_all) ({ frames := 1, cells := 0, slots := 0, locals := 20 } : Room)).room s m ([.ref (ad 1), .int p1] : List Value).toArray below meth c H locs 0 0 (MQ below (va_Qi Q (pt_B D cA ad) (pt_fr ad s.heap.size)) ([.ref (ad 1), .int p1] : List Value).toArray s 0 0 (pt_fr ad s.heap.size)) (F0 m 53 ls [.int xs0]) := by
        intro x2 x3 x4 xs0 M H locs ls hw hP hS hl
        unfold wjX1_endedAmong_53 at hw
        refine lv_istore (lv' := [(5, .int xs0), (0, .ref (ad 1)), (1, .int p1), (2, .int x2), (3, .int x3), (4, .int x4)]) hx hb dX1_endedAmong_53 hl (by decide) rfl (fun ls hl => ?_)
        refine lv_aload_n hx hb dX1_endedAmong_55 rfl (lv_at hl 1 rfl) ?_
        refine pt_get F hP (pt_c1 _ pt_k1) (pt_l1 pt_k1) inX1 rfl 0 (by decide) kw_222 rfl rfl dX1_endedAmong_56 ?_
        refine lv_iload_n hx hb dX1_endedAmong_59 rfl (lv_at hl 4 rfl) ?_
        have hv60 := hw.1
        replace hw := hw.2
        refine pt_alds F hP hv60 dX1_endedAmong_60 ?_
        refine pt_get F hP (pt_c5 _ (pt_ks hv60)) (pt_l5 (pt_ks hv60)) inX5 rfl 2 (by decide) kw_136 rfl rfl dX1_endedAmong_61 ?_
        refine lv_iconst (v := 1) hx hb dX1_endedAmong_64 (by decide) ?_
        refine lv_icmp_ne (tgt := 86) hx hb dX1_endedAmong_65 (by decide) (fun hc65 => ?_) (fun hc65 => ?_)
        · replace hw := hw.1 hc65
          exact J86 x2 x3 xs0 M _ _ _ hw hP hS (lv_sub hl [1, 2, 3, 4, 0] rfl)
        · replace hw := hw.2 hc65
          refine lv_iload hx hb dX1_endedAmong_68 (lv_at hl 5 rfl) ?_
          refine lv_if_eq (tgt := 86) hx hb dX1_endedAmong_70 (by decide) (fun hc70 => ?_) (fun hc70 => ?_)
          · replace hw := hw.1 hc70
            exact J86 x2 x3 xs0 M _ _ _ hw hP hS (lv_sub hl [1, 2, 3, 4, 0] rfl)
          · replace hw := hw.2 hc70
            refine lv_iload hx hb dX1_endedAmong_73 (lv_at hl 5 rfl) ?_
            refine lv_iload_n hx hb dX1_endedAmong_75 rfl (lv_at hl 3 rfl) ?_
            refine lv_iconst (v := (-1)) hx hb dX1_endedAmong_76 (by decide) ?_
            refine lv_ixor hx hb dX1_endedAmong_77 ?_
            refine lv_iand hx hb dX1_endedAmong_78 ?_
            refine lv_if_ne (tgt := 86) hx hb dX1_endedAmong_79 (by decide) (fun hc79 => ?_) (fun hc79 => ?_)
            · replace hw := hw.1 hc79
              exact J86 x2 x3 xs0 M _ _ _ hw hP hS (lv_sub hl [1, 2, 3, 4, 0] rfl)
            · replace hw := hw.2 hc79
              refine lv_iconst (v := 1) hx hb dX1_endedAmong_82 (by decide) ?_
              refine lv_goto (tgt := 87) hx hb dX1_endedAmong_83 (by decide) ?_
              exact J87 x2 x3 xs0 1 M _ _ _ hw hP hS (lv_sub hl [1, 2, 3, 4, 0] rfl)
      have J52 : ∀ (x2 : Int32) (x3 : Int32) (x4 : Int32) (M : pt_M) (H : Heap) (locs : List Loc) (ls : Array Slot), wjX1_endedAmong_52 p1 Q (lpX1_endedAmong_9 p1 Q n9) x2 x3 x4 M → va_P D pt_cl (pt_W cA ad M) H → va_S (pt_fr ad s.heap.size) s.heap H locs → lv_has ls 7 [(0, .ref (ad 1)), (1, .int p1), (2, .int x2), (3, .int x3), (4, .int x4)] → W p l e (headSpec (Cond.code yX1_endedAmong cX1_endedAmong 7 (some .int) :: lw_all) ({ frames := 1, cells := 0, slots := 0, locals := 20 } : Room)).room s m ([.ref (ad 1), .int p1] : List Value).toArray below meth c H locs 0 0 (MQ below (va_Qi Q (pt_B D cA ad) (pt_fr ad s.heap.size)) ([.ref (ad 1), .int p1] : List Value).toArray s 0 0 (pt_fr ad s.heap.size)) (F0 m 52 ls []) := by
        intro x2 x3 x4 M H locs ls hw hP hS hl
        unfold wjX1_endedAmong_52 at hw
        refine lv_iconst (v := 0) hx hb dX1_endedAmong_52 (by decide) ?_
        exact J53 x2 x3 x4 0 M _ _ _ hw hP hS (lv_sub hl [0, 1, 2, 3, 4] rfl)
      intro x2 x3 M H locs ls hw hP hS hl
      replace hw : lbX1_endedAmong_9 p1 Q (lpX1_endedAmong_9 p1 Q n9) x2 x3 M := hw
      unfold lbX1_endedAmong_9 at hw
      refine lv_iload_n hx hb dX1_endedAmong_9 rfl (lv_at hl 3 rfl) ?_
      refine lv_if_lt (tgt := 112) hx hb dX1_endedAmong_10 (by decide) (fun hc10 => ?_) (fun hc10 => ?_)
      · replace hw := hw.1 hc10
        refine lv_iload_n hx hb dX1_endedAmong_112 rfl (lv_at hl 2 rfl) ?_
        exact W.iret (v := x2) hx hb hr (fun t ht hW => ⟨⟨x2, M, rfl, hw, by unfold pt_B; rw [ht]; exact hP⟩, hS.F ht⟩) hS.2.2 dX1_endedAmong_113
      · replace hw := hw.2 hc10
        refine lv_aload_n hx hb dX1_endedAmong_13 rfl (lv_at hl 0 rfl) ?_
        refine pt_get F hP (pt_c1 _ pt_k1) (pt_l1 pt_k1) inX1 rfl 0 (by decide) kw_222 rfl rfl dX1_endedAmong_14 ?_
        refine lv_iload_n hx hb dX1_endedAmong_17 rfl (lv_at hl 3 rfl) ?_
        have hv18 := hw.1
        replace hw := hw.2
        refine pt_alds F hP hv18 dX1_endedAmong_18 ?_
        refine pt_get F hP (pt_c5 _ (pt_ks hv18)) (pt_l5 (pt_ks hv18)) inX5 rfl 5 (by decide) kw_148 rfl rfl dX1_endedAmong_19 ?_
        refine lv_topi (fun x4_22 ex4_22 => ?_)
        replace hw := hw x4_22 ex4_22
        refine lv_istore (lv' := [(4, .int x4_22), (0, .ref (ad 1)), (1, .int p1), (2, .int x2), (3, .int x3)]) hx hb dX1_endedAmong_22 hl (by decide) rfl (fun ls hl => ?_)
        refine lv_aload_n hx hb dX1_endedAmong_24 rfl (lv_at hl 1 rfl) ?_
        refine pt_get F hP (pt_c1 _ pt_k1) (pt_l1 pt_k1) inX1 rfl 0 (by decide) kw_222 rfl rfl dX1_endedAmong_25 ?_
        refine lv_iload_n hx hb dX1_endedAmong_28 rfl (lv_at hl 4 rfl) ?_
        have hv29 := hw.1
        replace hw := hw.2
        refine pt_alds F hP hv29 dX1_endedAmong_29 ?_
        refine pt_get F hP (pt_c5 _ (pt_ks hv29)) (pt_l5 (pt_ks hv29)) inX5 rfl 2 (by decide) kw_136 rfl rfl dX1_endedAmong_30 ?_
        refine lv_if_ne (tgt := 52) hx hb dX1_endedAmong_33 (by decide) (fun hc33 => ?_) (fun hc33 => ?_)
        · replace hw := hw.1 hc33
          exact J52 x2 x3 x4_22 M _ _ _ hw hP hS (lv_sub hl [1, 2, 3, 4, 0] rfl)
        · replace hw := hw.2 hc33
          refine lv_iload hx hb dX1_endedAmong_36 (lv_at hl 0 rfl) ?_
          refine lv_aload_n hx hb dX1_endedAmong_38 rfl (lv_at hl 1 rfl) ?_
          refine pt_get F hP (pt_c1 _ pt_k1) (pt_l1 pt_k1) inX1 rfl 6 (by decide) kw_238 rfl rfl dX1_endedAmong_39 ?_
          refine lv_iand hx hb dX1_endedAmong_42 ?_
          refine lv_iload_n hx hb dX1_endedAmong_43 rfl (lv_at hl 2 rfl) ?_
          refine lv_iand hx hb dX1_endedAmong_44 ?_
          refine lv_if_eq (tgt := 52) hx hb dX1_endedAmong_45 (by decide) (fun hc45 => ?_) (fun hc45 => ?_)
          · replace hw := hw.1 hc45
            exact J52 x2 x3 x4_22 M _ _ _ hw hP hS (lv_sub hl [1, 2, 3, 4, 0] rfl)
          · replace hw := hw.2 hc45
            refine lv_iconst (v := 1) hx hb dX1_endedAmong_48 (by decide) ?_
            refine lv_goto (tgt := 53) hx hb dX1_endedAmong_49 (by decide) ?_
            exact J53 x2 x3 x4_22 1 M _ _ _ hw hP hS (lv_sub hl [1, 2, 3, 4, 0] rfl)
  unfold wpX1_endedAmong at hw
  refine lv_iconst (v := 0) hx hb dX1_endedAmong_0 (by decide) ?_
  refine lv_istore_n (lv' := [(2, .int 0), (0, .ref (ad 1)), (1, .int p1)]) hx hb dX1_endedAmong_1 rfl hl (by decide) rfl (fun ls hl => ?_)
  refine lv_aload_n hx hb dX1_endedAmong_2 rfl (lv_at hl 1 rfl) ?_
  refine pt_get F hP (pt_c1 _ pt_k1) (pt_l1 pt_k1) inX1 rfl 3 (by decide) kw_230 rfl rfl dX1_endedAmong_3 ?_
  refine lv_iconst (v := 1) hx hb dX1_endedAmong_6 (by decide) ?_
  refine lv_isub hx hb dX1_endedAmong_7 ?_
  refine lv_topi (fun x3_8 ex3_8 => ?_)
  replace hw := hw x3_8 ex3_8
  refine lv_istore_n (lv' := [(3, .int x3_8), (2, .int 0), (0, .ref (ad 1)), (1, .int p1)]) hx hb dX1_endedAmong_8 rfl hl (by decide) rfl (fun ls hl => ?_)
  obtain ⟨n_, hw⟩ := hw
  exact L9 n_ 0 x3_8 M _ _ _ hw hP hS (lv_sub hl [2, 3, 1, 0] rfl)
-- ===== X3_reset
def lbX3_reset_9 (k0 : Nat) (Q : pt_M → Prop)  (R9 : Int32 → pt_M → Prop) (x1 : Int32) (M : pt_M) : Prop :=
  (30 ≤ x1 → ∀ M_33 : pt_M, M_33 = pt_st M k0 4 0 → ∀ M_38 : pt_M, M_38 = pt_st M_33 k0 5 0 → ∀ M_43 : pt_M, M_43 = pt_st M_38 k0 6 0 → ∀ M_48 : pt_M, M_48 = pt_st M_43 k0 8 0 → Q M_48) ∧ (¬ 30 ≤ x1 → vp_in x1 30 ∧ ∀ M_24 : pt_M, M_24 = pt_st M (k0 + 5) (Int32.toNatClampNeg x1) 0 → ∀ x1_25 : Int32, x1_25 = x1 + 1 → R9 x1_25 M_24)
def lpX3_reset_9 (k0 : Nat) (Q : pt_M → Prop)  : Nat → Int32 → pt_M → Prop
  | 0 => fun _ _ => False
  | n + 1 => fun x1 M => lbX3_reset_9 k0 Q (lpX3_reset_9 k0 Q n) x1 M
def wpX3_reset (k0 : Nat) (M : pt_M) (Q : pt_M → Prop) : Prop :=
  wpX4_clear (k0 + 1) M (fun (M_4 : pt_M) => ∃ n : Nat, lpX3_reset_9 k0 Q n 0 M_4)
set_option maxHeartbeats 4000000 in
set_option maxRecDepth 100000 in
theorem mtX3_reset (l : Launch) (D : va_G) (cA : Nat → ClassId) (ad : Nat → Nat) (hI : pt_I ad) (sz : Nat) (k0 : Nat) (hk0 : pt_kd k0 = 3) (M : pt_M) (Q : pt_M → Prop) (hw : wpX3_reset k0 M Q) : Met l yX3_reset (Cond.code yX3_reset cX3_reset 2 none :: lw_all) ({ frames := 2, cells := 0, slots := 0, locals := 42 } : Room) (va_Pc [.ref (ad k0)] (pt_P D cA ad sz M)) (va_Qv Q (pt_B D cA ad) (pt_fr ad sz)) 0 0 (pt_fr ad sz) := by
  refine Met.ofW (cc := cX3_reset) (maxL := 2) (ret := none) (by decide) rfl ?_
  intro p e s m args below meth c s₁ B hml hv
  obtain ⟨rfl, hsz, hP, hK⟩ := hv
  have hx := B.exec
  have hb := B.bytes
  have hr := B.returns
  have hts0 := atoms_spec (ws := (Cond.code yX3_reset cX3_reset 2 none :: lw_all)) B.pre
  have hown : s.vm.findClass RX3 = some m.cls := findClass_of_methodNamed B.named
  have hlocks := B.notSynchronized
  subst hsz
  have F : pt_F p m c cX3_reset 2 s _ RX3 D cA := ⟨⟨hx, hb, hml, hown, fun w h => hts0 w (List.mem_cons_of_mem _ h)⟩, hK⟩
  have hD : ∀ M, va_D (pt_fr ad s.heap.size) (pt_W cA ad M) := pt_D hI (fun k h => Or.inl ⟨k, h, rfl⟩)
  have hS : va_S (pt_fr ad s.heap.size) s.heap s.heap [] := va_S.rf
  have hl := lv_entry ([.ref (ad k0)]) (n := 2) (Nat.le_of_ble_eq_true rfl)
  rw [lg_entry_eq]
  generalize (lg_sl ([.ref (ad k0)]) ++ List.replicate (2 - (lg_sl ([.ref (ad k0)])).length) Slot.unset).toArray = ls at hl ⊢
  have hl : lv_has ls 2 [(0, .ref (ad k0))] := hl
  have L9 : ∀ (n9 : Nat) (x1 : Int32) (M : pt_M) (H : Heap) (locs : List Loc) (ls : Array Slot), lpX3_reset_9 k0 Q n9 x1 M → va_P D pt_cl (pt_W cA ad M) H → va_S (pt_fr ad s.heap.size) s.heap H locs → lv_has ls 2 [(0, .ref (ad k0)), (1, .int x1)] → W p l e (headSpec (Cond.code yX3_reset cX3_reset 2 none :: lw_all) ({ frames := 2, cells := 0, slots := 0, locals := 42 } : Room)).room s m ([.ref (ad k0)] : List Value).toArray below meth c H locs 0 0 (MQ below (va_Qv Q (pt_B D cA ad) (pt_fr ad s.heap.size)) ([.ref (ad k0)] : List Value).toArray s 0 0 (pt_fr ad s.heap.size)) (F0 m 9 ls []) := by
    intro n9
    induction n9 with
    | zero => intro x1 M H locs ls hw; exact hw.elim
    | succ n9 ih9 =>
      intro x1 M H locs ls hw hP hS hl
      replace hw : lbX3_reset_9 k0 Q (lpX3_reset_9 k0 Q n9) x1 M := hw
      unfold lbX3_reset_9 at hw
      refine lv_iload_n hx hb dX3_reset_9 rfl (lv_at hl 1 rfl) ?_
      refine lv_aload_n hx hb dX3_reset_10 rfl (lv_at hl 0 rfl) ?_
      refine pt_get F hP (pt_c3 _ hk0) (pt_l3 hk0) inX3 rfl 2 (by decide) kw_293 rfl rfl dX3_reset_11 ?_
      refine pt_alen (v := 30) F hP (pt_3f hk0) rfl dX3_reset_14 ?_
      refine lv_icmp_ge (tgt := 31) hx hb dX3_reset_15 (by decide) (fun hc15 => ?_) (fun hc15 => ?_)
      · replace hw := hw.1 hc15
        refine lv_aload_n hx hb dX3_reset_31 rfl (lv_at hl 0 rfl) ?_
        refine lv_iconst (v := 0) hx hb dX3_reset_32 (by decide) ?_
        refine pt_put F hP hD hS (pt_c3 _ hk0) (pt_l3 hk0) inX3 tyX3 tyX3_ok nmX3 rfl 4 (by decide) kw_297 rfl rfl rfl rfl (Nat.le_of_ble_eq_true rfl) (pt_c3 _ hk0) dX3_reset_33 (fun M_33 H locs eM_33 hP hS => ?_)
        replace hw := hw M_33 eM_33
        refine lv_aload_n hx hb dX3_reset_36 rfl (lv_at hl 0 rfl) ?_
        refine lv_iconst (v := 0) hx hb dX3_reset_37 (by decide) ?_
        refine pt_put F hP hD hS (pt_c3 _ hk0) (pt_l3 hk0) inX3 tyX3 tyX3_ok nmX3 rfl 5 (by decide) kw_299 rfl rfl rfl rfl (Nat.le_of_ble_eq_true rfl) (pt_c3 _ hk0) dX3_reset_38 (fun M_38 H locs eM_38 hP hS => ?_)
        replace hw := hw M_38 eM_38
        refine lv_aload_n hx hb dX3_reset_41 rfl (lv_at hl 0 rfl) ?_
        refine lv_iconst (v := 0) hx hb dX3_reset_42 (by decide) ?_
        refine pt_put F hP hD hS (pt_c3 _ hk0) (pt_l3 hk0) inX3 tyX3 tyX3_ok nmX3 rfl 6 (by decide) kw_301 rfl rfl rfl rfl (Nat.le_of_ble_eq_true rfl) (pt_c3 _ hk0) dX3_reset_43 (fun M_43 H locs eM_43 hP hS => ?_)
        replace hw := hw M_43 eM_43
        refine lv_aload_n hx hb dX3_reset_46 rfl (lv_at hl 0 rfl) ?_
        refine lv_iconst (v := 0) hx hb dX3_reset_47 (by decide) ?_
        refine pt_put F hP hD hS (pt_c3 _ hk0) (pt_l3 hk0) inX3 tyX3 tyX3_ok nmX3 rfl 8 (by decide) kw_304 rfl rfl rfl rfl (Nat.le_of_ble_eq_true rfl) (pt_c3 _ hk0) dX3_reset_48 (fun M_48 H locs eM_48 hP hS => ?_)
        replace hw := hw M_48 eM_48
        exact W.vret hx hb hr (fun t ht hW => ⟨⟨M_48, rfl, hw, by unfold pt_B; rw [ht]; exact hP⟩, hS.F ht⟩) hS.2.2 dX3_reset_51
      · replace hw := hw.2 hc15
        refine lv_aload_n hx hb dX3_reset_18 rfl (lv_at hl 0 rfl) ?_
        refine pt_get F hP (pt_c3 _ hk0) (pt_l3 hk0) inX3 rfl 2 (by decide) kw_293 rfl rfl dX3_reset_19 ?_
        refine lv_iload_n hx hb dX3_reset_22 rfl (lv_at hl 1 rfl) ?_
        refine lv_iconst (v := 0) hx hb dX3_reset_23 (by decide) ?_
        have hv24 := hw.1
        replace hw := hw.2
        refine pt_iast F hP hD hS (pt_3f hk0) hv24 dX3_reset_24 (fun M_24 H locs eM_24 hP hS => ?_)
        replace hw := hw M_24 eM_24
        obtain ⟨x1_25, ex1_25⟩ : ∃ y : Int32, y = x1 + 1 := ⟨_, rfl⟩
        replace hw := hw x1_25 ex1_25
        refine lv_iinc (v := x1_25) (lv' := [(1, .int x1_25), (0, .ref (ad k0))]) hx hb dX3_reset_25 hl (k := 1) rfl (by rw [ex1_25]; rfl) (by decide) rfl (fun ls hl => ?_)
        refine lv_goto (tgt := 9) hx hb dX3_reset_28 (by decide) ?_
        exact ih9 x1_25 M_24 _ _ _ hw hP hS (lv_sub hl [1, 0] rfl)
  unfold wpX3_reset at hw
  refine lv_aload_n hx hb dX3_reset_0 rfl (lv_at hl 0 rfl) ?_
  refine pt_get F hP (pt_c3 _ hk0) (pt_l3 hk0) inX3 rfl 1 (by decide) kw_290 rfl rfl dX3_reset_1 ?_
  refine pt_callv (pt_runV (n := 0) (As := []) (rest := []) F hP (pt_c4 _ (pt_3s hk0)) (pt_l4 (pt_3s hk0)) rfl (mtX4_clear l D cA ad hI _ (k0 + 1) (pt_3s hk0) M _ hw) kw_710 kw_707 kw_58 kw_708 kw_709 ⟨by decide, by decide, by decide +kernel⟩ ⟨rfl, rfl, Nat.le_of_ble_eq_true rfl, Nat.le_of_ble_eq_true rfl⟩ rfl hl.1 rfl (Nat.le_of_ble_eq_true rfl) dX3_reset_4 ⟨Nat.zero_le _, Nat.zero_le _⟩) hS (fun _ h => h) (fun M_4 H locs hw hP hS _ _ => ?_)
  refine lv_iconst (v := 0) hx hb dX3_reset_7 (by decide) ?_
  refine lv_istore_n (lv' := [(1, .int 0), (0, .ref (ad k0))]) hx hb dX3_reset_8 rfl hl (by decide) rfl (fun ls hl => ?_)
  obtain ⟨n_, hw⟩ := hw
  exact L9 n_ 0 M_4 _ _ _ hw hP hS (lv_sub hl [1, 0] rfl)
-- ===== X3_isAtEnd
def wjX3_isAtEnd_36 (k0 : Nat) (Q : Int32 → pt_M → Prop)  (xs0 : Int32) (M : pt_M) : Prop :=
  pt_zb xs0 ∧ Q xs0 M
def wpX3_isAtEnd (k0 : Nat) (M : pt_M) (Q : Int32 → pt_M → Prop) : Prop :=
  vp_in 0 20 ∧ (((((M (pt_s 0) 5) &&& (M 1 6)) &&& (M (k0 + 1) 3)) = 0 → wjX3_isAtEnd_36 k0 Q 0 M) ∧ (¬ (((M (pt_s 0) 5) &&& (M 1 6)) &&& (M (k0 + 1) 3)) = 0 → wjX3_isAtEnd_36 k0 Q 1 M))
set_option maxHeartbeats 4000000 in
set_option maxRecDepth 100000 in
theorem mtX3_isAtEnd (l : Launch) (D : va_G) (cA : Nat → ClassId) (ad : Nat → Nat) (hI : pt_I ad) (sz : Nat) (k0 : Nat) (hk0 : pt_kd k0 = 3) (M : pt_M) (Q : Int32 → pt_M → Prop) (hw : wpX3_isAtEnd k0 M Q) : Met l yX3_isAtEnd (Cond.code yX3_isAtEnd cX3_isAtEnd 1 (some .boolean) :: lw_all) ({ frames := 0, cells := 0, slots := 0, locals := 0 } : Room) (va_Pc [.ref (ad k0)] (pt_P D cA ad sz M)) (va_Qi Q (pt_B D cA ad) (pt_fr ad sz)) 0 0 (pt_fr ad sz) := by
  refine Met.ofW (cc := cX3_isAtEnd) (maxL := 1) (ret := (some .boolean)) (by decide) rfl ?_
  intro p e s m args below meth c s₁ B hml hv
  obtain ⟨rfl, hsz, hP, hK⟩ := hv
  have hx := B.exec
  have hb := B.bytes
  have hr := B.returns
  have hts0 := atoms_spec (ws := (Cond.code yX3_isAtEnd cX3_isAtEnd 1 (some .boolean) :: lw_all)) B.pre
  have hown : s.vm.findClass RX3 = some m.cls := findClass_of_methodNamed B.named
  have hlocks := B.notSynchronized
  subst hsz
  have F : pt_F p m c cX3_isAtEnd 1 s _ RX3 D cA := ⟨⟨hx, hb, hml, hown, fun w h => hts0 w (List.mem_cons_of_mem _ h)⟩, hK⟩
  have hD : ∀ M, va_D (pt_fr ad s.heap.size) (pt_W cA ad M) := pt_D hI (fun k h => Or.inl ⟨k, h, rfl⟩)
  have hS : va_S (pt_fr ad s.heap.size) s.heap s.heap [] := va_S.rf
  have hl := lv_entry ([.ref (ad k0)]) (n := 1) (Nat.le_of_ble_eq_true rfl)
  rw [lg_entry_eq]
  generalize (lg_sl ([.ref (ad k0)]) ++ List.replicate (1 - (lg_sl ([.ref (ad k0)])).length) Slot.unset).toArray = ls at hl ⊢
  have hl : lv_has ls 1 [(0, .ref (ad k0))] := hl
  have J36 : ∀ (xs0 : Int32) (M : pt_M) (H : Heap) (locs : List Loc) (ls : Array Slot), wjX3_isAtEnd_36 k0 Q xs0 M → va_P D pt_cl (pt_W cA ad M) H → va_S (pt_fr ad s.heap.size) s.heap H locs → lv_has ls 1 [] → W p l e (headSpec (Cond.code yX3_isAtEnd cX3_isAtEnd 1 (some .boolean) :: lw_all) ({ frames := 0, cells := 0, slots := 0, locals := 0 } : Room)).room s m ([.ref (ad k0)] : List Value).toArray below meth c H locs 0 0 (MQ below (va_Qi Q (pt_B D cA ad) (pt_fr ad s.heap.size)) ([.ref (ad k0)] : List Value).toArray s 0 0 (pt_fr ad s.heap.size)) (F0 m 36 ls [.int xs0]) := by
    intro xs0 M H locs ls hw hP hS hl
    unfold wjX3_isAtEnd_36 at hw
    exact W.zret (v := xs0) (ty := .boolean) hx hb hr (pt_zb_n hw.1) (fun t ht hW => ⟨⟨xs0, M, rfl, hw.2, by unfold pt_B; rw [ht]; exact hP⟩, hS.F ht⟩) hS.2.2 dX3_isAtEnd_36
  unfold wpX3_isAtEnd at hw
  refine lv_aload_n hx hb dX3_isAtEnd_0 rfl (lv_at hl 0 rfl) ?_
  refine pt_get F hP (pt_c3 _ hk0) (pt_l3 hk0) inX3 rfl 0 (by decide) kw_289 rfl rfl dX3_isAtEnd_1 ?_
  refine pt_get F hP (pt_c1 _ pt_k1) (pt_l1 pt_k1) inX1 rfl 0 (by decide) kw_224 rfl rfl dX3_isAtEnd_4 ?_
  refine lv_iconst (v := 0) hx hb dX3_isAtEnd_7 (by decide) ?_
  have hv8 := hw.1
  replace hw := hw.2
  refine pt_alds F hP hv8 dX3_isAtEnd_8 ?_
  refine pt_get F hP (pt_c5 _ (pt_ks hv8)) (pt_l5 (pt_ks hv8)) inX5 rfl 5 (by decide) kw_145 rfl rfl dX3_isAtEnd_9 ?_
  refine lv_aload_n hx hb dX3_isAtEnd_12 rfl (lv_at hl 0 rfl) ?_
  refine pt_get F hP (pt_c3 _ hk0) (pt_l3 hk0) inX3 rfl 0 (by decide) kw_289 rfl rfl dX3_isAtEnd_13 ?_
  refine pt_get F hP (pt_c1 _ pt_k1) (pt_l1 pt_k1) inX1 rfl 6 (by decide) kw_239 rfl rfl dX3_isAtEnd_16 ?_
  refine lv_iand hx hb dX3_isAtEnd_19 ?_
  refine lv_aload_n hx hb dX3_isAtEnd_20 rfl (lv_at hl 0 rfl) ?_
  refine pt_get F hP (pt_c3 _ hk0) (pt_l3 hk0) inX3 rfl 1 (by decide) kw_290 rfl rfl dX3_isAtEnd_21 ?_
  refine pt_get F hP (pt_c4 _ (pt_3s hk0)) (pt_l4 (pt_3s hk0)) inX4 rfl 3 (by decide) kw_278 rfl rfl dX3_isAtEnd_24 ?_
  refine lv_iand hx hb dX3_isAtEnd_27 ?_
  refine lv_if_eq (tgt := 35) hx hb dX3_isAtEnd_28 (by decide) (fun hc28 => ?_) (fun hc28 => ?_)
  · replace hw := hw.1 hc28
    refine lv_iconst (v := 0) hx hb dX3_isAtEnd_35 (by decide) ?_
    exact J36 0 M _ _ _ hw hP hS (lv_sub hl [] rfl)
  · replace hw := hw.2 hc28
    refine lv_iconst (v := 1) hx hb dX3_isAtEnd_31 (by decide) ?_
    refine lv_goto (tgt := 36) hx hb dX3_isAtEnd_32 (by decide) ?_
    exact J36 1 M _ _ _ hw hP hS (lv_sub hl [] rfl)
-- ===== X3_growOlder
def wjX3_growOlder_50 (k0 : Nat) (Q : pt_M → Prop) (R12 : Int32 → pt_M → Prop) (x1 : Int32) (M : pt_M) : Prop :=
  ∀ x1_50 : Int32, x1_50 = x1 + 1 → R12 x1_50 M
def lbX3_growOlder_12 (k0 : Nat) (Q : pt_M → Prop)  (R12 : Int32 → pt_M → Prop) (x1 : Int32) (M : pt_M) : Prop :=
  ((M 1 3) ≤ x1 → Q M) ∧ (¬ (M 1 3) ≤ x1 → wpX7_has (M (k0 + 1) 3) x1 M (fun (r_31 : Int32) (M_31 : pt_M) => (r_31 = 0 → wjX3_growOlder_50 k0 Q R12 x1 M_31) ∧ (¬ r_31 = 0 → vp_in x1 20 ∧ (vp_in x1 20 ∧ ∀ M_49 : pt_M, M_49 = pt_st M_31 ((k0 + 1) + 1) (Int32.toNatClampNeg x1) ((M_31 ((k0 + 1) + 1) (Int32.toNatClampNeg x1)) + 1) → wjX3_growOlder_50 k0 Q R12 x1 M_49))))
def lpX3_growOlder_12 (k0 : Nat) (Q : pt_M → Prop)  : Nat → Int32 → pt_M → Prop
  | 0 => fun _ _ => False
  | n + 1 => fun x1 M => lbX3_growOlder_12 k0 Q (lpX3_growOlder_12 k0 Q n) x1 M
def wpX3_growOlder (k0 : Nat) (M : pt_M) (Q : pt_M → Prop) : Prop :=
  ∀ M_7 : pt_M, M_7 = pt_st M k0 4 ((M k0 4) + 1) → ∃ n : Nat, lpX3_growOlder_12 k0 Q n 0 M_7
set_option maxHeartbeats 4000000 in
set_option maxRecDepth 100000 in
theorem mtX3_growOlder (l : Launch) (D : va_G) (cA : Nat → ClassId) (ad : Nat → Nat) (hI : pt_I ad) (sz : Nat) (k0 : Nat) (hk0 : pt_kd k0 = 3) (M : pt_M) (Q : pt_M → Prop) (hw : wpX3_growOlder k0 M Q) : Met l yX3_growOlder (Cond.code yX3_growOlder cX3_growOlder 2 none :: lw_all) ({ frames := 1, cells := 0, slots := 0, locals := 21 } : Room) (va_Pc [.ref (ad k0)] (pt_P D cA ad sz M)) (va_Qv Q (pt_B D cA ad) (pt_fr ad sz)) 0 0 (pt_fr ad sz) := by
  refine Met.ofW (cc := cX3_growOlder) (maxL := 2) (ret := none) (by decide) rfl ?_
  intro p e s m args below meth c s₁ B hml hv
  obtain ⟨rfl, hsz, hP, hK⟩ := hv
  have hx := B.exec
  have hb := B.bytes
  have hr := B.returns
  have hts0 := atoms_spec (ws := (Cond.code yX3_growOlder cX3_growOlder 2 none :: lw_all)) B.pre
  have hown : s.vm.findClass RX3 = some m.cls := findClass_of_methodNamed B.named
  have hlocks := B.notSynchronized
  subst hsz
  have F : pt_F p m c cX3_growOlder 2 s _ RX3 D cA := ⟨⟨hx, hb, hml, hown, fun w h => hts0 w (List.mem_cons_of_mem _ h)⟩, hK⟩
  have hD : ∀ M, va_D (pt_fr ad s.heap.size) (pt_W cA ad M) := pt_D hI (fun k h => Or.inl ⟨k, h, rfl⟩)
  have hS : va_S (pt_fr ad s.heap.size) s.heap s.heap [] := va_S.rf
  have hl := lv_entry ([.ref (ad k0)]) (n := 2) (Nat.le_of_ble_eq_true rfl)
  rw [lg_entry_eq]
  generalize (lg_sl ([.ref (ad k0)]) ++ List.replicate (2 - (lg_sl ([.ref (ad k0)])).length) Slot.unset).toArray = ls at hl ⊢
  have hl : lv_has ls 2 [(0, .ref (ad k0))] := hl
  have L12 : ∀ (n12 : Nat) (x1 : Int32) (M : pt_M) (H : Heap) (locs : List Loc) (ls : Array Slot), lpX3_growOlder_12 k0 Q n12 x1 M → va_P D pt_cl (pt_W cA ad M) H → va_S (pt_fr ad s.heap.size) s.heap H locs → lv_has ls 2 [(0, .ref (ad k0)), (1, .int x1)] → W p l e (headSpec (Cond.code yX3_growOlder cX3_growOlder 2 none :: lw_all) ({ frames := 1, cells := 0, slots := 0, locals := 21 } : Room)).room s m ([.ref (ad k0)] : List Value).toArray below meth c H locs 0 0 (MQ below (va_Qv Q (pt_B D cA ad) (pt_fr ad s.heap.size)) ([.ref (ad k0)] : List Value).toArray s 0 0 (pt_fr ad s.heap.size)) (F0 m 12 ls []) := by
    intro n12
    induction n12 with
    | zero => intro x1 M H locs ls hw; exact hw.elim
    | succ n12 ih12 =>
      have J50 : ∀ (x1 : Int32) (M : pt_M) (H : Heap) (locs : List Loc) (ls : Array Slot), wjX3_growOlder_50 k0 Q (lpX3_growOlder_12 k0 Q n12) x1 M → va_P D pt_cl (pt_W cA ad M) H → va_S (pt_fr ad s.heap.size) s.heap H locs → lv_has ls 2 [(0, .ref (ad k0)), (1, .int x1)] → W p l e (headSpec (Cond.code yX3_growOlder cX3_growOlder 2 none :: lw_all) ({ frames := 1, cells := 0, slots := 0, locals := 21 } : Room)).room s m ([.ref (ad k0)] : List Value).toArray below meth c H locs 0 0 (MQ below (va_Qv Q (pt_B D cA ad) (pt_fr ad s.heap.size)) ([.ref (ad k0)] : List Value).toArray s 0 0 (pt_fr ad s.heap.size)) (F0 m 50 ls []) := by
        intro x1 M H locs ls hw hP hS hl
        unfold wjX3_growOlder_50 at hw
        obtain ⟨x1_50, ex1_50⟩ : ∃ y : Int32, y = x1 + 1 := ⟨_, rfl⟩
        replace hw := hw x1_50 ex1_50
        refine lv_iinc (v := x1_50) (lv' := [(1, .int x1_50), (0, .ref (ad k0))]) hx hb dX3_growOlder_50 hl (k := 1) rfl (by rw [ex1_50]; rfl) (by decide) rfl (fun ls hl => ?_)
        refine lv_goto (tgt := 12) hx hb dX3_growOlder_53 (by decide) ?_
        exact ih12 x1_50 M _ _ _ hw hP hS (lv_sub hl [1, 0] rfl)
      intro x1 M H locs ls hw hP hS hl
      replace hw : lbX3_growOlder_12 k0 Q (lpX3_growOlder_12 k0 Q n12) x1 M := hw
      unfold lbX3_growOlder_12 at hw
      refine lv_iload_n hx hb dX3_growOlder_12 rfl (lv_at hl 1 rfl) ?_
      refine lv_aload_n hx hb dX3_growOlder_13 rfl (lv_at hl 0 rfl) ?_
      refine pt_get F hP (pt_c3 _ hk0) (pt_l3 hk0) inX3 rfl 0 (by decide) kw_289 rfl rfl dX3_growOlder_14 ?_
      refine pt_get F hP (pt_c1 _ pt_k1) (pt_l1 pt_k1) inX1 rfl 3 (by decide) kw_232 rfl rfl dX3_growOlder_17 ?_
      refine lv_icmp_ge (tgt := 56) hx hb dX3_growOlder_20 (by decide) (fun hc20 => ?_) (fun hc20 => ?_)
      · replace hw := hw.1 hc20
        exact W.vret hx hb hr (fun t ht hW => ⟨⟨M, rfl, hw, by unfold pt_B; rw [ht]; exact hP⟩, hS.F ht⟩) hS.2.2 dX3_growOlder_56
      · replace hw := hw.2 hc20
        refine lv_aload_n hx hb dX3_growOlder_23 rfl (lv_at hl 0 rfl) ?_
        refine pt_get F hP (pt_c3 _ hk0) (pt_l3 hk0) inX3 rfl 1 (by decide) kw_290 rfl rfl dX3_growOlder_24 ?_
        refine pt_get F hP (pt_c4 _ (pt_3s hk0)) (pt_l4 (pt_3s hk0)) inX4 rfl 3 (by decide) kw_278 rfl rfl dX3_growOlder_27 ?_
        refine lv_iload_n hx hb dX3_growOlder_30 rfl (lv_at hl 1 rfl) ?_
        refine pt_calli (pt_runSN (n := 2) (As := [.int (M (k0 + 1) 3), .int x1]) (rest := []) F hP (mtX7_has l D cA ad hI _ (M (k0 + 1) 3) x1 M _ hw) kw_449 kw_724 kw_52 kw_448 ⟨by decide, by decide, by decide +kernel⟩ ⟨rfl, rfl, Nat.le_of_ble_eq_true rfl, Nat.le_of_ble_eq_true rfl⟩ rfl hl.1 rfl (Nat.le_of_ble_eq_true rfl) dX3_growOlder_31 ⟨Nat.zero_le _, Nat.zero_le _⟩) hS (fun _ h => h) (fun r_31 M_31 H locs hw hP hS _ _ => ?_)
        refine lv_if_eq (tgt := 50) hx hb dX3_growOlder_34 (by decide) (fun hc34 => ?_) (fun hc34 => ?_)
        · replace hw := hw.1 hc34
          exact J50 x1 M_31 _ _ _ hw hP hS (lv_sub hl [0, 1] rfl)
        · replace hw := hw.2 hc34
          refine lv_aload_n hx hb dX3_growOlder_37 rfl (lv_at hl 0 rfl) ?_
          refine pt_get F hP (pt_c3 _ hk0) (pt_l3 hk0) inX3 rfl 1 (by decide) kw_290 rfl rfl dX3_growOlder_38 ?_
          refine pt_get F hP (pt_c4 _ (pt_3s hk0)) (pt_l4 (pt_3s hk0)) inX4 rfl 0 (by decide) kw_268 rfl rfl dX3_growOlder_41 ?_
          refine lv_iload_n hx hb dX3_growOlder_44 rfl (lv_at hl 1 rfl) ?_
          refine lv_dup2_11 hx hb dX3_growOlder_45 rfl rfl ?_
          have hv46 := hw.1
          replace hw := hw.2
          refine pt_iald F hP (pt_4a (pt_3s hk0)) hv46 dX3_growOlder_46 ?_
          refine lv_iconst (v := 1) hx hb dX3_growOlder_47 (by decide) ?_
          refine lv_iadd hx hb dX3_growOlder_48 ?_
          have hv49 := hw.1
          replace hw := hw.2
          refine pt_iast F hP hD hS (pt_4a (pt_3s hk0)) hv49 dX3_growOlder_49 (fun M_49 H locs eM_49 hP hS => ?_)
          replace hw := hw M_49 eM_49
          exact J50 x1 M_49 _ _ _ hw hP hS (lv_sub hl [0, 1] rfl)
  unfold wpX3_growOlder at hw
  refine lv_aload_n hx hb dX3_growOlder_0 rfl (lv_at hl 0 rfl) ?_
  refine lv_dup hx hb dX3_growOlder_1 rfl ?_
  refine pt_get F hP (pt_c3 _ hk0) (pt_l3 hk0) inX3 rfl 4 (by decide) kw_297 rfl rfl dX3_growOlder_2 ?_
  refine lv_iconst (v := 1) hx hb dX3_growOlder_5 (by decide) ?_
  refine lv_iadd hx hb dX3_growOlder_6 ?_
  refine pt_put F hP hD hS (pt_c3 _ hk0) (pt_l3 hk0) inX3 tyX3 tyX3_ok nmX3 rfl 4 (by decide) kw_297 rfl rfl rfl rfl (Nat.le_of_ble_eq_true rfl) (pt_c3 _ hk0) dX3_growOlder_7 (fun M_7 H locs eM_7 hP hS => ?_)
  replace hw := hw M_7 eM_7
  refine lv_iconst (v := 0) hx hb dX3_growOlder_10 (by decide) ?_
  refine lv_istore_n (lv' := [(1, .int 0), (0, .ref (ad k0))]) hx hb dX3_growOlder_11 rfl hl (by decide) rfl (fun ls hl => ?_)
  obtain ⟨n_, hw⟩ := hw
  exact L12 n_ 0 M_7 _ _ _ hw hP hS (lv_sub hl [1, 0] rfl)
-- ===== X3_raise
def wjX3_raise_45 (k0 : Nat) (p1 : Int32) (Q : pt_M → Prop)   (M : pt_M) : Prop :=
  Q M
def wpX3_raise (k0 : Nat) (p1 : Int32) (M : pt_M) (Q : pt_M → Prop) : Prop :=
  (8 ≤ (M k0 8) → ∀ M_42 : pt_M, M_42 = pt_st M k0 5 ((M k0 5) + 1) → wjX3_raise_45 k0 p1 Q M_42) ∧ (¬ 8 ≤ (M k0 8) → vp_in (M k0 8) 8 ∧ ∀ M_21 : pt_M, M_21 = pt_st M (k0 + 6) (Int32.toNatClampNeg (M k0 8)) p1 → ∀ M_29 : pt_M, M_29 = pt_st M_21 k0 8 ((M_21 k0 8) + 1) → wjX3_raise_45 k0 p1 Q M_29)
set_option maxHeartbeats 4000000 in
set_option maxRecDepth 100000 in
theorem mtX3_raise (l : Launch) (D : va_G) (cA : Nat → ClassId) (ad : Nat → Nat) (hI : pt_I ad) (sz : Nat) (k0 : Nat) (hk0 : pt_kd k0 = 3) (p1 : Int32) (M : pt_M) (Q : pt_M → Prop) (hw : wpX3_raise k0 p1 M Q) : Met l yX3_raise (Cond.code yX3_raise cX3_raise 2 none :: lw_all) ({ frames := 0, cells := 0, slots := 0, locals := 0 } : Room) (va_Pc [.ref (ad k0), .int p1] (pt_P D cA ad sz M)) (va_Qv Q (pt_B D cA ad) (pt_fr ad sz)) 0 0 (pt_fr ad sz) := by
  refine Met.ofW (cc := cX3_raise) (maxL := 2) (ret := none) (by decide) rfl ?_
  intro p e s m args below meth c s₁ B hml hv
  obtain ⟨rfl, hsz, hP, hK⟩ := hv
  have hx := B.exec
  have hb := B.bytes
  have hr := B.returns
  have hts0 := atoms_spec (ws := (Cond.code yX3_raise cX3_raise 2 none :: lw_all)) B.pre
  have hown : s.vm.findClass RX3 = some m.cls := findClass_of_methodNamed B.named
  have hlocks := B.notSynchronized
  subst hsz
  have F : pt_F p m c cX3_raise 2 s _ RX3 D cA := ⟨⟨hx, hb, hml, hown, fun w h => hts0 w (List.mem_cons_of_mem _ h)⟩, hK⟩
  have hD : ∀ M, va_D (pt_fr ad s.heap.size) (pt_W cA ad M) := pt_D hI (fun k h => Or.inl ⟨k, h, rfl⟩)
  have hS : va_S (pt_fr ad s.heap.size) s.heap s.heap [] := va_S.rf
  have hl := lv_entry ([.ref (ad k0), .int p1]) (n := 2) (Nat.le_of_ble_eq_true rfl)
  rw [lg_entry_eq]
  generalize (lg_sl ([.ref (ad k0), .int p1]) ++ List.replicate (2 - (lg_sl ([.ref (ad k0), .int p1])).length) Slot.unset).toArray = ls at hl ⊢
  have hl : lv_has ls 2 [(0, .ref (ad k0)), (1, .int p1)] := hl
  have J45 : ∀ (M : pt_M) (H : Heap) (locs : List Loc) (ls : Array Slot), wjX3_raise_45 k0 p1 Q M → va_P D pt_cl (pt_W cA ad M) H → va_S (pt_fr ad s.heap.size) s.heap H locs → lv_has ls 2 [] → W p l e (headSpec (Cond.code yX3_raise cX3_raise 2 none :: lw_all) ({ frames := 0, cells := 0, slots := 0, locals := 0 } : Room)).room s m ([.ref (ad k0), .int p1] : List Value).toArray below meth c H locs 0 0 (MQ below (va_Qv Q (pt_B D cA ad) (pt_fr ad s.heap.size)) ([.ref (ad k0), .int p1] : List Value).toArray s 0 0 (pt_fr ad s.heap.size)) (F0 m 45 ls []) := by
    intro M H locs ls hw hP hS hl
    unfold wjX3_raise_45 at hw
    exact W.vret hx hb hr (fun t ht hW => ⟨⟨M, rfl, hw, by unfold pt_B; rw [ht]; exact hP⟩, hS.F ht⟩) hS.2.2 dX3_raise_45
  unfold wpX3_raise at hw
  refine lv_aload_n hx hb dX3_raise_0 rfl (lv_at hl 0 rfl) ?_
  refine pt_get F hP (pt_c3 _ hk0) (pt_l3 hk0) inX3 rfl 8 (by decide) kw_304 rfl rfl dX3_raise_1 ?_
  refine lv_aload_n hx hb dX3_raise_4 rfl (lv_at hl 0 rfl) ?_
  refine pt_get F hP (pt_c3 _ hk0) (pt_l3 hk0) inX3 rfl 7 (by decide) kw_303 rfl rfl dX3_raise_5 ?_
  refine pt_alen (v := 8) F hP (pt_3q hk0) rfl dX3_raise_8 ?_
  refine lv_icmp_ge (tgt := 35) hx hb dX3_raise_9 (by decide) (fun hc9 => ?_) (fun hc9 => ?_)
  · replace hw := hw.1 hc9
    refine lv_aload_n hx hb dX3_raise_35 rfl (lv_at hl 0 rfl) ?_
    refine lv_dup hx hb dX3_raise_36 rfl ?_
    refine pt_get F hP (pt_c3 _ hk0) (pt_l3 hk0) inX3 rfl 5 (by decide) kw_299 rfl rfl dX3_raise_37 ?_
    refine lv_iconst (v := 1) hx hb dX3_raise_40 (by decide) ?_
    refine lv_iadd hx hb dX3_raise_41 ?_
    refine pt_put F hP hD hS (pt_c3 _ hk0) (pt_l3 hk0) inX3 tyX3 tyX3_ok nmX3 rfl 5 (by decide) kw_299 rfl rfl rfl rfl (Nat.le_of_ble_eq_true rfl) (pt_c3 _ hk0) dX3_raise_42 (fun M_42 H locs eM_42 hP hS => ?_)
    replace hw := hw M_42 eM_42
    exact J45 M_42 _ _ _ hw hP hS (lv_sub hl [] rfl)
  · replace hw := hw.2 hc9
    refine lv_aload_n hx hb dX3_raise_12 rfl (lv_at hl 0 rfl) ?_
    refine pt_get F hP (pt_c3 _ hk0) (pt_l3 hk0) inX3 rfl 7 (by decide) kw_303 rfl rfl dX3_raise_13 ?_
    refine lv_aload_n hx hb dX3_raise_16 rfl (lv_at hl 0 rfl) ?_
    refine pt_get F hP (pt_c3 _ hk0) (pt_l3 hk0) inX3 rfl 8 (by decide) kw_304 rfl rfl dX3_raise_17 ?_
    refine lv_iload_n hx hb dX3_raise_20 rfl (lv_at hl 1 rfl) ?_
    have hv21 := hw.1
    replace hw := hw.2
    refine pt_iast F hP hD hS (pt_3q hk0) hv21 dX3_raise_21 (fun M_21 H locs eM_21 hP hS => ?_)
    replace hw := hw M_21 eM_21
    refine lv_aload_n hx hb dX3_raise_22 rfl (lv_at hl 0 rfl) ?_
    refine lv_dup hx hb dX3_raise_23 rfl ?_
    refine pt_get F hP (pt_c3 _ hk0) (pt_l3 hk0) inX3 rfl 8 (by decide) kw_304 rfl rfl dX3_raise_24 ?_
    refine lv_iconst (v := 1) hx hb dX3_raise_27 (by decide) ?_
    refine lv_iadd hx hb dX3_raise_28 ?_
    refine pt_put F hP hD hS (pt_c3 _ hk0) (pt_l3 hk0) inX3 tyX3 tyX3_ok nmX3 rfl 8 (by decide) kw_304 rfl rfl rfl rfl (Nat.le_of_ble_eq_true rfl) (pt_c3 _ hk0) dX3_raise_29 (fun M_29 H locs eM_29 hP hS => ?_)
    replace hw := hw M_29 eM_29
    refine lv_goto (tgt := 45) hx hb dX3_raise_32 (by decide) ?_
    exact J45 M_29 _ _ _ hw hP hS (lv_sub hl [] rfl)
-- ===== X3_loseQueue
def wpX3_loseQueue (k0 : Nat) (M : pt_M) (Q : pt_M → Prop) : Prop :=
  ∀ M_10 : pt_M, M_10 = pt_st M k0 5 ((M k0 5) + (M k0 8)) → ∀ M_15 : pt_M, M_15 = pt_st M_10 k0 8 0 → Q M_15
set_option maxHeartbeats 4000000 in
set_option maxRecDepth 100000 in
theorem mtX3_loseQueue (l : Launch) (D : va_G) (cA : Nat → ClassId) (ad : Nat → Nat) (hI : pt_I ad) (sz : Nat) (k0 : Nat) (hk0 : pt_kd k0 = 3) (M : pt_M) (Q : pt_M → Prop) (hw : wpX3_loseQueue k0 M Q) : Met l yX3_loseQueue (Cond.code yX3_loseQueue cX3_loseQueue 1 none :: lw_all) ({ frames := 0, cells := 0, slots := 0, locals := 0 } : Room) (va_Pc [.ref (ad k0)] (pt_P D cA ad sz M)) (va_Qv Q (pt_B D cA ad) (pt_fr ad sz)) 0 0 (pt_fr ad sz) := by
  refine Met.ofW (cc := cX3_loseQueue) (maxL := 1) (ret := none) (by decide) rfl ?_
  intro p e s m args below meth c s₁ B hml hv
  obtain ⟨rfl, hsz, hP, hK⟩ := hv
  have hx := B.exec
  have hb := B.bytes
  have hr := B.returns
  have hts0 := atoms_spec (ws := (Cond.code yX3_loseQueue cX3_loseQueue 1 none :: lw_all)) B.pre
  have hown : s.vm.findClass RX3 = some m.cls := findClass_of_methodNamed B.named
  have hlocks := B.notSynchronized
  subst hsz
  have F : pt_F p m c cX3_loseQueue 1 s _ RX3 D cA := ⟨⟨hx, hb, hml, hown, fun w h => hts0 w (List.mem_cons_of_mem _ h)⟩, hK⟩
  have hD : ∀ M, va_D (pt_fr ad s.heap.size) (pt_W cA ad M) := pt_D hI (fun k h => Or.inl ⟨k, h, rfl⟩)
  have hS : va_S (pt_fr ad s.heap.size) s.heap s.heap [] := va_S.rf
  have hl := lv_entry ([.ref (ad k0)]) (n := 1) (Nat.le_of_ble_eq_true rfl)
  rw [lg_entry_eq]
  generalize (lg_sl ([.ref (ad k0)]) ++ List.replicate (1 - (lg_sl ([.ref (ad k0)])).length) Slot.unset).toArray = ls at hl ⊢
  have hl : lv_has ls 1 [(0, .ref (ad k0))] := hl
  unfold wpX3_loseQueue at hw
  refine lv_aload_n hx hb dX3_loseQueue_0 rfl (lv_at hl 0 rfl) ?_
  refine lv_dup hx hb dX3_loseQueue_1 rfl ?_
  refine pt_get F hP (pt_c3 _ hk0) (pt_l3 hk0) inX3 rfl 5 (by decide) kw_299 rfl rfl dX3_loseQueue_2 ?_
  refine lv_aload_n hx hb dX3_loseQueue_5 rfl (lv_at hl 0 rfl) ?_
  refine pt_get F hP (pt_c3 _ hk0) (pt_l3 hk0) inX3 rfl 8 (by decide) kw_304 rfl rfl dX3_loseQueue_6 ?_
  refine lv_iadd hx hb dX3_loseQueue_9 ?_
  refine pt_put F hP hD hS (pt_c3 _ hk0) (pt_l3 hk0) inX3 tyX3 tyX3_ok nmX3 rfl 5 (by decide) kw_299 rfl rfl rfl rfl (Nat.le_of_ble_eq_true rfl) (pt_c3 _ hk0) dX3_loseQueue_10 (fun M_10 H locs eM_10 hP hS => ?_)
  replace hw := hw M_10 eM_10
  refine lv_aload_n hx hb dX3_loseQueue_13 rfl (lv_at hl 0 rfl) ?_
  refine lv_iconst (v := 0) hx hb dX3_loseQueue_14 (by decide) ?_
  refine pt_put F hP hD hS (pt_c3 _ hk0) (pt_l3 hk0) inX3 tyX3 tyX3_ok nmX3 rfl 8 (by decide) kw_304 rfl rfl rfl rfl (Nat.le_of_ble_eq_true rfl) (pt_c3 _ hk0) dX3_loseQueue_15 (fun M_15 H locs eM_15 hP hS => ?_)
  replace hw := hw M_15 eM_15
  exact W.vret hx hb hr (fun t ht hW => ⟨⟨M_15, rfl, hw, by unfold pt_B; rw [ht]; exact hP⟩, hS.F ht⟩) hS.2.2 dX3_loseQueue_18
-- ===== X3_nextEvent
def lbX3_nextEvent_9 (k0 : Nat) (Q : Int32 → pt_M → Prop)  (R9 : Int32 → Int32 → pt_M → Prop) (x1 : Int32) (x2 : Int32) (M : pt_M) : Prop :=
  (8 ≤ x2 → ∀ M_45 : pt_M, M_45 = pt_st M k0 8 ((M k0 8) - 1) → Q x1 M_45) ∧ (¬ 8 ≤ x2 → vp_in x2 8 ∧ (vp_in (x2 - 1) 8 ∧ ∀ M_31 : pt_M, M_31 = pt_st M (k0 + 6) (Int32.toNatClampNeg (x2 - 1)) (M (k0 + 6) (Int32.toNatClampNeg x2)) → ∀ x2_32 : Int32, x2_32 = x2 + 1 → R9 x1 x2_32 M_31))
def lpX3_nextEvent_9 (k0 : Nat) (Q : Int32 → pt_M → Prop)  : Nat → Int32 → Int32 → pt_M → Prop
  | 0 => fun _ _ _ => False
  | n + 1 => fun x1 x2 M => lbX3_nextEvent_9 k0 Q (lpX3_nextEvent_9 k0 Q n) x1 x2 M
def wpX3_nextEvent (k0 : Nat) (M : pt_M) (Q : Int32 → pt_M → Prop) : Prop :=
  vp_in 0 8 ∧ (∀ x1_6 : Int32, x1_6 = (M (k0 + 6) (Int32.toNatClampNeg 0)) → ∃ n : Nat, lpX3_nextEvent_9 k0 Q n x1_6 1 M)
set_option maxHeartbeats 4000000 in
set_option maxRecDepth 100000 in
theorem mtX3_nextEvent (l : Launch) (D : va_G) (cA : Nat → ClassId) (ad : Nat → Nat) (hI : pt_I ad) (sz : Nat) (k0 : Nat) (hk0 : pt_kd k0 = 3) (M : pt_M) (Q : Int32 → pt_M → Prop) (hw : wpX3_nextEvent k0 M Q) : Met l yX3_nextEvent (Cond.code yX3_nextEvent cX3_nextEvent 3 (some .int) :: lw_all) ({ frames := 0, cells := 0, slots := 0, locals := 0 } : Room) (va_Pc [.ref (ad k0)] (pt_P D cA ad sz M)) (va_Qi Q (pt_B D cA ad) (pt_fr ad sz)) 0 0 (pt_fr ad sz) := by
  refine Met.ofW (cc := cX3_nextEvent) (maxL := 3) (ret := (some .int)) (by decide) rfl ?_
  intro p e s m args below meth c s₁ B hml hv
  obtain ⟨rfl, hsz, hP, hK⟩ := hv
  have hx := B.exec
  have hb := B.bytes
  have hr := B.returns
  have hts0 := atoms_spec (ws := (Cond.code yX3_nextEvent cX3_nextEvent 3 (some .int) :: lw_all)) B.pre
  have hown : s.vm.findClass RX3 = some m.cls := findClass_of_methodNamed B.named
  have hlocks := B.notSynchronized
  subst hsz
  have F : pt_F p m c cX3_nextEvent 3 s _ RX3 D cA := ⟨⟨hx, hb, hml, hown, fun w h => hts0 w (List.mem_cons_of_mem _ h)⟩, hK⟩
  have hD : ∀ M, va_D (pt_fr ad s.heap.size) (pt_W cA ad M) := pt_D hI (fun k h => Or.inl ⟨k, h, rfl⟩)
  have hS : va_S (pt_fr ad s.heap.size) s.heap s.heap [] := va_S.rf
  have hl := lv_entry ([.ref (ad k0)]) (n := 3) (Nat.le_of_ble_eq_true rfl)
  rw [lg_entry_eq]
  generalize (lg_sl ([.ref (ad k0)]) ++ List.replicate (3 - (lg_sl ([.ref (ad k0)])).length) Slot.unset).toArray = ls at hl ⊢
  have hl : lv_has ls 3 [(0, .ref (ad k0))] := hl
  have L9 : ∀ (n9 : Nat) (x1 : Int32) (x2 : Int32) (M : pt_M) (H : Heap) (locs : List Loc) (ls : Array Slot), lpX3_nextEvent_9 k0 Q n9 x1 x2 M → va_P D pt_cl (pt_W cA ad M) H → va_S (pt_fr ad s.heap.size) s.heap H locs → lv_has ls 3 [(0, .ref (ad k0)), (1, .int x1), (2, .int x2)] → W p l e (headSpec (Cond.code yX3_nextEvent cX3_nextEvent 3 (some .int) :: lw_all) ({ frames := 0, cells := 0, slots := 0, locals := 0 } : Room)).room s m ([.ref (ad k0)] : List Value).toArray below meth c H locs 0 0 (MQ below (va_Qi Q (pt_B D cA ad) (pt_fr ad s.heap.size)) ([.ref (ad k0)] : List Value).toArray s 0 0 (pt_fr ad s.heap.size)) (F0 m 9 ls []) := by
    intro n9
    induction n9 with
    | zero => intro x1 x2 M H locs ls hw; exact hw.elim
    | succ n9 ih9 =>
      intro x1 x2 M H locs ls hw hP hS hl
      replace hw : lbX3_nextEvent_9 k0 Q (lpX3_nextEvent_9 k0 Q n9) x1 x2 M := hw
      unfold lbX3_nextEvent_9 at hw
      refine lv_iload_n hx hb dX3_nextEvent_9 rfl (lv_at hl 2 rfl) ?_
      refine lv_aload_n hx hb dX3_nextEvent_10 rfl (lv_at hl 0 rfl) ?_
      refine pt_get F hP (pt_c3 _ hk0) (pt_l3 hk0) inX3 rfl 7 (by decide) kw_303 rfl rfl dX3_nextEvent_11 ?_
      refine pt_alen (v := 8) F hP (pt_3q hk0) rfl dX3_nextEvent_14 ?_
      refine lv_icmp_ge (tgt := 38) hx hb dX3_nextEvent_15 (by decide) (fun hc15 => ?_) (fun hc15 => ?_)
      · replace hw := hw.1 hc15
        refine lv_aload_n hx hb dX3_nextEvent_38 rfl (lv_at hl 0 rfl) ?_
        refine lv_dup hx hb dX3_nextEvent_39 rfl ?_
        refine pt_get F hP (pt_c3 _ hk0) (pt_l3 hk0) inX3 rfl 8 (by decide) kw_304 rfl rfl dX3_nextEvent_40 ?_
        refine lv_iconst (v := 1) hx hb dX3_nextEvent_43 (by decide) ?_
        refine lv_isub hx hb dX3_nextEvent_44 ?_
        refine pt_put F hP hD hS (pt_c3 _ hk0) (pt_l3 hk0) inX3 tyX3 tyX3_ok nmX3 rfl 8 (by decide) kw_304 rfl rfl rfl rfl (Nat.le_of_ble_eq_true rfl) (pt_c3 _ hk0) dX3_nextEvent_45 (fun M_45 H locs eM_45 hP hS => ?_)
        replace hw := hw M_45 eM_45
        refine lv_iload_n hx hb dX3_nextEvent_48 rfl (lv_at hl 1 rfl) ?_
        exact W.iret (v := x1) hx hb hr (fun t ht hW => ⟨⟨x1, M_45, rfl, hw, by unfold pt_B; rw [ht]; exact hP⟩, hS.F ht⟩) hS.2.2 dX3_nextEvent_49
      · replace hw := hw.2 hc15
        refine lv_aload_n hx hb dX3_nextEvent_18 rfl (lv_at hl 0 rfl) ?_
        refine pt_get F hP (pt_c3 _ hk0) (pt_l3 hk0) inX3 rfl 7 (by decide) kw_303 rfl rfl dX3_nextEvent_19 ?_
        refine lv_iload_n hx hb dX3_nextEvent_22 rfl (lv_at hl 2 rfl) ?_
        refine lv_iconst (v := 1) hx hb dX3_nextEvent_23 (by decide) ?_
        refine lv_isub hx hb dX3_nextEvent_24 ?_
        refine lv_aload_n hx hb dX3_nextEvent_25 rfl (lv_at hl 0 rfl) ?_
        refine pt_get F hP (pt_c3 _ hk0) (pt_l3 hk0) inX3 rfl 7 (by decide) kw_303 rfl rfl dX3_nextEvent_26 ?_
        refine lv_iload_n hx hb dX3_nextEvent_29 rfl (lv_at hl 2 rfl) ?_
        have hv30 := hw.1
        replace hw := hw.2
        refine pt_iald F hP (pt_3q hk0) hv30 dX3_nextEvent_30 ?_
        have hv31 := hw.1
        replace hw := hw.2
        refine pt_iast F hP hD hS (pt_3q hk0) hv31 dX3_nextEvent_31 (fun M_31 H locs eM_31 hP hS => ?_)
        replace hw := hw M_31 eM_31
        obtain ⟨x2_32, ex2_32⟩ : ∃ y : Int32, y = x2 + 1 := ⟨_, rfl⟩
        replace hw := hw x2_32 ex2_32
        refine lv_iinc (v := x2_32) (lv' := [(2, .int x2_32), (0, .ref (ad k0)), (1, .int x1)]) hx hb dX3_nextEvent_32 hl (k := 2) rfl (by rw [ex2_32]; rfl) (by decide) rfl (fun ls hl => ?_)
        refine lv_goto (tgt := 9) hx hb dX3_nextEvent_35 (by decide) ?_
        exact ih9 x1 x2_32 M_31 _ _ _ hw hP hS (lv_sub hl [1, 2, 0] rfl)
  unfold wpX3_nextEvent at hw
  refine lv_aload_n hx hb dX3_nextEvent_0 rfl (lv_at hl 0 rfl) ?_
  refine pt_get F hP (pt_c3 _ hk0) (pt_l3 hk0) inX3 rfl 7 (by decide) kw_303 rfl rfl dX3_nextEvent_1 ?_
  refine lv_iconst (v := 0) hx hb dX3_nextEvent_4 (by decide) ?_
  have hv5 := hw.1
  replace hw := hw.2
  refine pt_iald F hP (pt_3q hk0) hv5 dX3_nextEvent_5 ?_
  refine lv_topi (fun x1_6 ex1_6 => ?_)
  replace hw := hw x1_6 ex1_6
  refine lv_istore_n (lv' := [(1, .int x1_6), (0, .ref (ad k0))]) hx hb dX3_nextEvent_6 rfl hl (by decide) rfl (fun ls hl => ?_)
  refine lv_iconst (v := 1) hx hb dX3_nextEvent_7 (by decide) ?_
  refine lv_istore_n (lv' := [(2, .int 1), (1, .int x1_6), (0, .ref (ad k0))]) hx hb dX3_nextEvent_8 rfl hl (by decide) rfl (fun ls hl => ?_)
  obtain ⟨n_, hw⟩ := hw
  exact L9 n_ x1_6 1 M _ _ _ hw hP hS (lv_sub hl [2, 1, 0] rfl)
