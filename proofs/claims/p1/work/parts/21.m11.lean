-- ===== X7_digestOfStates
def wjX7_digestOfStates_134 (p1 : Int64) (Q : Int64 → pt_M → Prop) (R24 : Int64 → Int32 → Int32 → pt_M → Prop) (x3 : Int64) (x5 : Int32) (x6 : Int32) (M : pt_M) : Prop :=
  ∀ x6_134 : Int32, x6_134 = x6 + 1 → R24 x3 x5 x6_134 M
def wjX7_digestOfStates_87 (p1 : Int64) (Q : Int64 → pt_M → Prop) (R24 : Int64 → Int32 → Int32 → pt_M → Prop) (x5 : Int32) (x6 : Int32) (xs0 : Int64) (xs1 : Int32) (M : pt_M) : Prop :=
  ∀ x3_89 : Int64, x3_89 = (xs0 + (Int32.toInt64 xs1)) → wpX7_ageOf x6 M (fun (r_98 : Int32) (M_98 : pt_M) => ∀ x3_103 : Int64, x3_103 = ((x3_89 * 31) + (Int32.toInt64 r_98)) → vp_in x6 20 ∧ (wpX5_isMark (pt_s x6) M_98 (fun (r_114 : Int32) (M_114 : pt_M) => (r_114 = 0 → wjX7_digestOfStates_134 p1 Q R24 x3_103 x5 x6 M_114) ∧ (¬ r_114 = 0 → wpX7_record x6 M_114 (fun (r_128 : Int32) (M_128 : pt_M) => ∀ x3_133 : Int64, x3_133 = ((x3_103 * 31) + (Int32.toInt64 r_128)) → wjX7_digestOfStates_134 p1 Q R24 x3_133 x5 x6 M_128)))))
def lbX7_digestOfStates_39 (p1 : Int64) (Q : Int64 → pt_M → Prop) (R24 : Int64 → Int32 → Int32 → pt_M → Prop) (R39 : Int64 → Int32 → Int32 → Int32 → pt_M → Prop) (x3 : Int64) (x5 : Int32) (x6 : Int32) (x7 : Int32) (M : pt_M) : Prop :=
  (4 ≤ x7 → wpX7_has x5 x6 M (fun (r_76 : Int32) (M_76 : pt_M) => (r_76 = 0 → wjX7_digestOfStates_87 p1 Q R24 x5 x6 (x3 * 31) 0 M_76) ∧ (¬ r_76 = 0 → wjX7_digestOfStates_87 p1 Q R24 x5 x6 (x3 * 31) 1 M_76))) ∧ (¬ 4 ≤ x7 → wpX7_ofState x6 x7 M (fun (r_55 : Int32) (M_55 : pt_M) => ∀ x3_60 : Int64, x3_60 = ((x3 * 31) + (Int32.toInt64 r_55)) → ∀ x7_61 : Int32, x7_61 = x7 + 1 → R39 x3_60 x5 x6 x7_61 M_55))
def lpX7_digestOfStates_39 (p1 : Int64) (Q : Int64 → pt_M → Prop) (R24 : Int64 → Int32 → Int32 → pt_M → Prop) : Nat → Int64 → Int32 → Int32 → Int32 → pt_M → Prop
  | 0 => fun _ _ _ _ _ => False
  | n + 1 => fun x3 x5 x6 x7 M => lbX7_digestOfStates_39 p1 Q R24 (lpX7_digestOfStates_39 p1 Q R24 n) x3 x5 x6 x7 M
def lbX7_digestOfStates_24 (p1 : Int64) (Q : Int64 → pt_M → Prop)  (R24 : Int64 → Int32 → Int32 → pt_M → Prop) (x3 : Int64) (x5 : Int32) (x6 : Int32) (M : pt_M) : Prop :=
  ((M 1 3) ≤ x6 → Q x3 M) ∧ (¬ (M 1 3) ≤ x6 → ∃ n : Nat, lpX7_digestOfStates_39 p1 Q R24 n x3 x5 x6 0 M)
def lpX7_digestOfStates_24 (p1 : Int64) (Q : Int64 → pt_M → Prop)  : Nat → Int64 → Int32 → Int32 → pt_M → Prop
  | 0 => fun _ _ _ _ => False
  | n + 1 => fun x3 x5 x6 M => lbX7_digestOfStates_24 p1 Q (lpX7_digestOfStates_24 p1 Q n) x3 x5 x6 M
def wpX7_digestOfStates (p1 : Int64) (M : pt_M) (Q : Int64 → pt_M → Prop) : Prop :=
  wpX1_endedAmong (M (125 + 1) 3) M (fun (r_16 : Int32) (M_16 : pt_M) => ∃ n : Nat, lpX7_digestOfStates_24 p1 Q n p1 r_16 0 M_16)
set_option maxHeartbeats 4000000 in
set_option maxRecDepth 100000 in
theorem mtX7_digestOfStates (l : Launch) (D : va_G) (cA : Nat → ClassId) (ad : Nat → Nat) (hI : pt_I ad) (sz : Nat) (p1 : Int64) (M : pt_M) (Q : Int64 → pt_M → Prop) (hw : wpX7_digestOfStates p1 M Q) : Met l yX7_digestOfStates (Cond.code yX7_digestOfStates cX7_digestOfStates 8 (some .long) :: lw_all) ({ frames := 3, cells := 0, slots := 0, locals := 66 } : Room) (va_Pc [.ref (ad 0), .long p1] (pt_P D cA ad sz M)) (va_Ql Q (pt_B D cA ad) (pt_fr ad sz)) 0 0 (pt_fr ad sz) := by
  refine Met.ofW (cc := cX7_digestOfStates) (maxL := 8) (ret := (some .long)) (by decide) rfl ?_
  intro p e s m args below meth c s₁ B hml hv
  obtain ⟨rfl, hsz, hP, hK⟩ := hv
  have hx := B.exec
  have hb := B.bytes
  have hr := B.returns
  have hts0 := atoms_spec (ws := (Cond.code yX7_digestOfStates cX7_digestOfStates 8 (some .long) :: lw_all)) B.pre
  have hown : s.vm.findClass RX7 = some m.cls := findClass_of_methodNamed B.named
  have hlocks := B.notSynchronized
  subst hsz
  have F : pt_F p m c cX7_digestOfStates 8 s _ RX7 D cA := ⟨⟨hx, hb, hml, hown, fun w h => hts0 w (List.mem_cons_of_mem _ h)⟩, hK⟩
  have hD : ∀ M, va_D (pt_fr ad s.heap.size) (pt_W cA ad M) := pt_D hI (fun k h => Or.inl ⟨k, h, rfl⟩)
  have hS : va_S (pt_fr ad s.heap.size) s.heap s.heap [] := va_S.rf
  have hl := lv_entry ([.ref (ad 0), .long p1]) (n := 8) (Nat.le_of_ble_eq_true rfl)
  rw [lg_entry_eq]
  generalize (lg_sl ([.ref (ad 0), .long p1]) ++ List.replicate (8 - (lg_sl ([.ref (ad 0), .long p1])).length) Slot.unset).toArray = ls at hl ⊢
  have hl : lv_has ls 8 [(0, .ref (ad 0)), (1, .long p1)] := hl
  have L24 : ∀ (n24 : Nat) (x3 : Int64) (x5 : Int32) (x6 : Int32) (M : pt_M) (H : Heap) (locs : List Loc) (ls : Array Slot), lpX7_digestOfStates_24 p1 Q n24 x3 x5 x6 M → va_P D pt_cl (pt_W cA ad M) H → va_S (pt_fr ad s.heap.size) s.heap H locs → lv_has ls 8 [(0, .ref (ad 0)), (3, .long x3), (5, .int x5), (6, .int x6)] → W p l e (headSpec (Cond.code yX7_digestOfStates cX7_digestOfStates 8 (some .long) :: lw_all) ({ frames := 3, cells := 0, slots := 0, locals := 66 } : Room)).room s m ([.ref (ad 0), .long p1] : List Value).toArray below meth c H locs 0 0 (MQ below (va_Ql Q (pt_B D cA ad) (pt_fr ad s.heap.size)) ([.ref (ad 0), .long p1] : List Value).toArray s 0 0 (pt_fr ad s.heap.size)) (F0 m 24 ls []) := by
    intro n24
    induction n24 with
    | zero => intro x3 x5 x6 M H locs ls hw; exact hw.elim
    | succ n24 ih24 =>
      have J134 : ∀ (x3 : Int64) (x5 : Int32) (x6 : Int32) (M : pt_M) (H : Heap) (locs : List Loc) (ls : Array Slot), wjX7_digestOfStates_134 p1 Q (lpX7_digestOfStates_24 p1 Q n24) x3 x5 x6 M → va_P D pt_cl (pt_W cA ad M) H → va_S (pt_fr ad s.heap.size) s.heap H locs → lv_has ls 8 [(0, .ref (ad 0)), (3, .long x3), (5, .int x5), (6, .int x6)] → W p l e (headSpec (Cond.code yX7_digestOfStates cX7_digestOfStates 8 (some .long) :: lw_all) ({ frames := 3, cells := 0, slots := 0, locals := 66 } : Room)).room s m ([.ref (ad 0), .long p1] : List Value).toArray below meth c H locs 0 0 (MQ below (va_Ql Q (pt_B D cA ad) (pt_fr ad s.heap.size)) ([.ref (ad 0), .long p1] : List Value).toArray s 0 0 (pt_fr ad s.heap.size)) (F0 m 134 ls []) := by
        intro x3 x5 x6 M H locs ls hw hP hS hl
        unfold wjX7_digestOfStates_134 at hw
        obtain ⟨x6_134, ex6_134⟩ : ∃ y : Int32, y = x6 + 1 := ⟨_, rfl⟩
        replace hw := hw x6_134 ex6_134
        refine lv_iinc (v := x6_134) (lv' := [(6, .int x6_134), (0, .ref (ad 0)), (3, .long x3), (5, .int x5)]) hx hb dX7_digestOfStates_134 hl (k := 3) rfl (by rw [ex6_134]; rfl) (by decide) rfl (fun ls hl => ?_)
        refine lv_goto (tgt := 24) hx hb dX7_digestOfStates_137 (by decide) ?_
        exact ih24 x3 x5 x6_134 M _ _ _ hw hP hS (lv_sub hl [1, 2, 3, 0] rfl)
      have J87 : ∀ (x5 : Int32) (x6 : Int32) (xs0 : Int64) (xs1 : Int32) (M : pt_M) (H : Heap) (locs : List Loc) (ls : Array Slot), wjX7_digestOfStates_87 p1 Q (lpX7_digestOfStates_24 p1 Q n24) x5 x6 xs0 xs1 M → va_P D pt_cl (pt_W cA ad M) H → va_S (pt_fr ad s.heap.size) s.heap H locs → lv_has ls 8 [(0, .ref (ad 0)), (5, .int x5), (6, .int x6)] → W p l e (headSpec (Cond.code yX7_digestOfStates cX7_digestOfStates 8 (some .long) :: lw_all) ({ frames := 3, cells := 0, slots := 0, locals := 66 } : Room)).room s m ([.ref (ad 0), .long p1] : List Value).toArray below meth c H locs 0 0 (MQ below (va_Ql Q (pt_B D cA ad) (pt_fr ad s.heap.size)) ([.ref (ad 0), .long p1] : List Value).toArray s 0 0 (pt_fr ad s.heap.size)) (F0 m 87 ls [.int xs1, .long xs0]) := by
        intro x5 x6 xs0 xs1 M H locs ls hw hP hS hl
        unfold wjX7_digestOfStates_87 at hw
        refine lv_i2l hx hb dX7_digestOfStates_87 rfl ?_
        refine lv_ladd hx hb dX7_digestOfStates_88 ?_
        refine lv_topl (fun x3_89 ex3_89 => ?_)
        replace hw := hw x3_89 ex3_89
        refine lv_lstore_n (lv' := [(3, .long x3_89), (0, .ref (ad 0)), (5, .int x5), (6, .int x6)]) hx hb dX7_digestOfStates_89 rfl hl (by decide) rfl (fun ls hl => ?_)
        refine lv_lload_n hx hb dX7_digestOfStates_90 rfl (lv_at hl 0 rfl) ?_
        refine lv_ldc2 (v := 31) hx hb hown (F.1.2.2.2.2 _ kw_455) dX7_digestOfStates_91 ?_
        refine lv_lmul hx hb dX7_digestOfStates_94 ?_
        refine lv_aload_n hx hb dX7_digestOfStates_95 rfl (lv_at hl 1 rfl) ?_
        refine lv_iload hx hb dX7_digestOfStates_96 (lv_at hl 3 rfl) ?_
        refine pt_calli (pt_runV (n := 1) (As := [.int x6]) (rest := [.long (x3_89 * 31)]) F hP (pt_c7 _ pt_k0) (pt_l7 pt_k0) rfl (mtX7_ageOf l D cA ad hI _ x6 M _ hw) kw_563 kw_560 kw_52 kw_561 kw_562 ⟨by decide, by decide, by decide +kernel⟩ ⟨rfl, rfl, Nat.le_of_ble_eq_true rfl, Nat.le_of_ble_eq_true rfl⟩ rfl hl.1 rfl (Nat.le_of_ble_eq_true rfl) dX7_digestOfStates_98 ⟨Nat.zero_le _, Nat.zero_le _⟩) hS (fun _ h => h) (fun r_98 M_98 H locs hw hP hS _ _ => ?_)
        refine lv_i2l hx hb dX7_digestOfStates_101 rfl ?_
        refine lv_ladd hx hb dX7_digestOfStates_102 ?_
        refine lv_topl (fun x3_103 ex3_103 => ?_)
        replace hw := hw x3_103 ex3_103
        refine lv_lstore_n (lv' := [(3, .long x3_103), (0, .ref (ad 0)), (5, .int x5), (6, .int x6)]) hx hb dX7_digestOfStates_103 rfl hl (by decide) rfl (fun ls hl => ?_)
        refine lv_aload_n hx hb dX7_digestOfStates_104 rfl (lv_at hl 1 rfl) ?_
        refine pt_get F hP (pt_c7 _ pt_k0) (pt_l7 pt_k0) inX7 rfl 0 (by decide) kw_370 rfl rfl dX7_digestOfStates_105 ?_
        refine pt_get F hP (pt_c1 _ pt_k1) (pt_l1 pt_k1) inX1 rfl 0 (by decide) kw_223 rfl rfl dX7_digestOfStates_108 ?_
        refine lv_iload hx hb dX7_digestOfStates_111 (lv_at hl 3 rfl) ?_
        have hv113 := hw.1
        replace hw := hw.2
        refine pt_alds F hP hv113 dX7_digestOfStates_113 ?_
        refine pt_calli (pt_runV (n := 0) (As := []) (rest := []) F hP (pt_c5 _ (pt_ks hv113)) (pt_l5 (pt_ks hv113)) rfl (mtX5_isMark l D cA ad hI _ (pt_s x6) (pt_ks hv113) M_98 _ hw) kw_567 kw_564 kw_54 kw_565 kw_566 ⟨by decide, by decide, by decide +kernel⟩ ⟨rfl, rfl, Nat.le_of_ble_eq_true rfl, Nat.le_of_ble_eq_true rfl⟩ rfl hl.1 rfl (Nat.le_of_ble_eq_true rfl) dX7_digestOfStates_114 ⟨Nat.zero_le _, Nat.zero_le _⟩) hS (fun _ h => h) (fun r_114 M_114 H locs hw hP hS _ _ => ?_)
        refine lv_if_eq (tgt := 134) hx hb dX7_digestOfStates_117 (by decide) (fun hc117 => ?_) (fun hc117 => ?_)
        · replace hw := hw.1 hc117
          exact J134 x3_103 x5 x6 M_114 _ _ _ hw hP hS (lv_sub hl [1, 0, 2, 3] rfl)
        · replace hw := hw.2 hc117
          refine lv_lload_n hx hb dX7_digestOfStates_120 rfl (lv_at hl 0 rfl) ?_
          refine lv_ldc2 (v := 31) hx hb hown (F.1.2.2.2.2 _ kw_455) dX7_digestOfStates_121 ?_
          refine lv_lmul hx hb dX7_digestOfStates_124 ?_
          refine lv_aload_n hx hb dX7_digestOfStates_125 rfl (lv_at hl 1 rfl) ?_
          refine lv_iload hx hb dX7_digestOfStates_126 (lv_at hl 3 rfl) ?_
          refine pt_calli (pt_runV (n := 1) (As := [.int x6]) (rest := [.long (x3_103 * 31)]) F hP (pt_c7 _ pt_k0) (pt_l7 pt_k0) rfl (mtX7_record l D cA ad hI _ x6 M_114 _ hw) kw_571 kw_568 kw_52 kw_569 kw_570 ⟨by decide, by decide, by decide +kernel⟩ ⟨rfl, rfl, Nat.le_of_ble_eq_true rfl, Nat.le_of_ble_eq_true rfl⟩ rfl hl.1 rfl (Nat.le_of_ble_eq_true rfl) dX7_digestOfStates_128 ⟨Nat.zero_le _, Nat.zero_le _⟩) hS (fun _ h => h) (fun r_128 M_128 H locs hw hP hS _ _ => ?_)
          refine lv_i2l hx hb dX7_digestOfStates_131 rfl ?_
          refine lv_ladd hx hb dX7_digestOfStates_132 ?_
          refine lv_topl (fun x3_133 ex3_133 => ?_)
          replace hw := hw x3_133 ex3_133
          refine lv_lstore_n (lv' := [(3, .long x3_133), (0, .ref (ad 0)), (5, .int x5), (6, .int x6)]) hx hb dX7_digestOfStates_133 rfl hl (by decide) rfl (fun ls hl => ?_)
          exact J134 x3_133 x5 x6 M_128 _ _ _ hw hP hS (lv_sub hl [1, 0, 2, 3] rfl)
      have L39 : ∀ (n39 : Nat) (x3 : Int64) (x5 : Int32) (x6 : Int32) (x7 : Int32) (M : pt_M) (H : Heap) (locs : List Loc) (ls : Array Slot), lpX7_digestOfStates_39 p1 Q (lpX7_digestOfStates_24 p1 Q n24) n39 x3 x5 x6 x7 M → va_P D pt_cl (pt_W cA ad M) H → va_S (pt_fr ad s.heap.size) s.heap H locs → lv_has ls 8 [(0, .ref (ad 0)), (3, .long x3), (5, .int x5), (6, .int x6), (7, .int x7)] → W p l e (headSpec (Cond.code yX7_digestOfStates cX7_digestOfStates 8 (some .long) :: lw_all) ({ frames := 3, cells := 0, slots := 0, locals := 66 } : Room)).room s m ([.ref (ad 0), .long p1] : List Value).toArray below meth c H locs 0 0 (MQ below (va_Ql Q (pt_B D cA ad) (pt_fr ad s.heap.size)) ([.ref (ad 0), .long p1] : List Value).toArray s 0 0 (pt_fr ad s.heap.size)) (F0 m 39 ls []) := by
        intro n39
        induction n39 with
        | zero => intro x3 x5 x6 x7 M H locs ls hw; exact hw.elim
        | succ n39 ih39 =>
          intro x3 x5 x6 x7 M H locs ls hw hP hS hl
          replace hw : lbX7_digestOfStates_39 p1 Q (lpX7_digestOfStates_24 p1 Q n24) (lpX7_digestOfStates_39 p1 Q (lpX7_digestOfStates_24 p1 Q n24) n39) x3 x5 x6 x7 M := hw
          unfold lbX7_digestOfStates_39 at hw
          refine lv_iload hx hb dX7_digestOfStates_39 (lv_at hl 4 rfl) ?_
          refine lv_iconst (v := 4) hx hb dX7_digestOfStates_41 (by decide) ?_
          refine lv_icmp_ge (tgt := 67) hx hb dX7_digestOfStates_42 (by decide) (fun hc42 => ?_) (fun hc42 => ?_)
          · replace hw := hw.1 hc42
            refine lv_lload_n hx hb dX7_digestOfStates_67 rfl (lv_at hl 1 rfl) ?_
            refine lv_ldc2 (v := 31) hx hb hown (F.1.2.2.2.2 _ kw_455) dX7_digestOfStates_68 ?_
            refine lv_lmul hx hb dX7_digestOfStates_71 ?_
            refine lv_iload hx hb dX7_digestOfStates_72 (lv_at hl 2 rfl) ?_
            refine lv_iload hx hb dX7_digestOfStates_74 (lv_at hl 3 rfl) ?_
            refine pt_calli (pt_runS (n := 2) (As := [.int x5, .int x6]) (rest := [.long (x3 * 31)]) F hP (mtX7_has l D cA ad hI _ x5 x6 M _ hw) kw_449 kw_447 kw_52 kw_448 ⟨by decide, by decide, by decide +kernel⟩ ⟨rfl, rfl, Nat.le_of_ble_eq_true rfl, Nat.le_of_ble_eq_true rfl⟩ rfl hl.1 rfl (Nat.le_of_ble_eq_true rfl) dX7_digestOfStates_76 ⟨Nat.zero_le _, Nat.zero_le _⟩) hS (fun _ h => h) (fun r_76 M_76 H locs hw hP hS _ _ => ?_)
            refine lv_if_eq (tgt := 86) hx hb dX7_digestOfStates_79 (by decide) (fun hc79 => ?_) (fun hc79 => ?_)
            · replace hw := hw.1 hc79
              refine lv_iconst (v := 0) hx hb dX7_digestOfStates_86 (by decide) ?_
              exact J87 x5 x6 (x3 * 31) 0 M_76 _ _ _ hw hP hS (lv_sub hl [0, 2, 3] rfl)
            · replace hw := hw.2 hc79
              refine lv_iconst (v := 1) hx hb dX7_digestOfStates_82 (by decide) ?_
              refine lv_goto (tgt := 87) hx hb dX7_digestOfStates_83 (by decide) ?_
              exact J87 x5 x6 (x3 * 31) 1 M_76 _ _ _ hw hP hS (lv_sub hl [0, 2, 3] rfl)
          · replace hw := hw.2 hc42
            refine lv_lload_n hx hb dX7_digestOfStates_45 rfl (lv_at hl 1 rfl) ?_
            refine lv_ldc2 (v := 31) hx hb hown (F.1.2.2.2.2 _ kw_455) dX7_digestOfStates_46 ?_
            refine lv_lmul hx hb dX7_digestOfStates_49 ?_
            refine lv_aload_n hx hb dX7_digestOfStates_50 rfl (lv_at hl 0 rfl) ?_
            refine lv_iload hx hb dX7_digestOfStates_51 (lv_at hl 3 rfl) ?_
            refine lv_iload hx hb dX7_digestOfStates_53 (lv_at hl 4 rfl) ?_
            refine pt_calli (pt_runV (n := 2) (As := [.int x6, .int x7]) (rest := [.long (x3 * 31)]) F hP (pt_c7 _ pt_k0) (pt_l7 pt_k0) rfl (mtX7_ofState l D cA ad hI _ x6 x7 M _ hw) kw_477 kw_474 kw_52 kw_475 kw_476 ⟨by decide, by decide, by decide +kernel⟩ ⟨rfl, rfl, Nat.le_of_ble_eq_true rfl, Nat.le_of_ble_eq_true rfl⟩ rfl hl.1 rfl (Nat.le_of_ble_eq_true rfl) dX7_digestOfStates_55 ⟨Nat.zero_le _, Nat.zero_le _⟩) hS (fun _ h => h) (fun r_55 M_55 H locs hw hP hS _ _ => ?_)
            refine lv_i2l hx hb dX7_digestOfStates_58 rfl ?_
            refine lv_ladd hx hb dX7_digestOfStates_59 ?_
            refine lv_topl (fun x3_60 ex3_60 => ?_)
            replace hw := hw x3_60 ex3_60
            refine lv_lstore_n (lv' := [(3, .long x3_60), (0, .ref (ad 0)), (5, .int x5), (6, .int x6), (7, .int x7)]) hx hb dX7_digestOfStates_60 rfl hl (by decide) rfl (fun ls hl => ?_)
            obtain ⟨x7_61, ex7_61⟩ : ∃ y : Int32, y = x7 + 1 := ⟨_, rfl⟩
            replace hw := hw x7_61 ex7_61
            refine lv_iinc (v := x7_61) (lv' := [(7, .int x7_61), (3, .long x3_60), (0, .ref (ad 0)), (5, .int x5), (6, .int x6)]) hx hb dX7_digestOfStates_61 hl (k := 4) rfl (by rw [ex7_61]; rfl) (by decide) rfl (fun ls hl => ?_)
            refine lv_goto (tgt := 39) hx hb dX7_digestOfStates_64 (by decide) ?_
            exact ih39 x3_60 x5 x6 x7_61 M_55 _ _ _ hw hP hS (lv_sub hl [2, 1, 3, 4, 0] rfl)
      intro x3 x5 x6 M H locs ls hw hP hS hl
      replace hw : lbX7_digestOfStates_24 p1 Q (lpX7_digestOfStates_24 p1 Q n24) x3 x5 x6 M := hw
      unfold lbX7_digestOfStates_24 at hw
      refine lv_iload hx hb dX7_digestOfStates_24 (lv_at hl 3 rfl) ?_
      refine lv_aload_n hx hb dX7_digestOfStates_26 rfl (lv_at hl 0 rfl) ?_
      refine pt_get F hP (pt_c7 _ pt_k0) (pt_l7 pt_k0) inX7 rfl 0 (by decide) kw_370 rfl rfl dX7_digestOfStates_27 ?_
      refine pt_get F hP (pt_c1 _ pt_k1) (pt_l1 pt_k1) inX1 rfl 3 (by decide) kw_231 rfl rfl dX7_digestOfStates_30 ?_
      refine lv_icmp_ge (tgt := 140) hx hb dX7_digestOfStates_33 (by decide) (fun hc33 => ?_) (fun hc33 => ?_)
      · replace hw := hw.1 hc33
        refine lv_lload_n hx hb dX7_digestOfStates_140 rfl (lv_at hl 1 rfl) ?_
        exact W.lret (v := x3) hx hb hr (fun t ht hW => ⟨⟨x3, M, rfl, hw, by unfold pt_B; rw [ht]; exact hP⟩, hS.F ht⟩) hS.2.2 dX7_digestOfStates_141
      · replace hw := hw.2 hc33
        refine lv_iconst (v := 0) hx hb dX7_digestOfStates_36 (by decide) ?_
        refine lv_istore (lv' := [(7, .int 0), (0, .ref (ad 0)), (3, .long x3), (5, .int x5), (6, .int x6)]) hx hb dX7_digestOfStates_37 hl (by decide) rfl (fun ls hl => ?_)
        obtain ⟨n_, hw⟩ := hw
        exact L39 n_ x3 x5 x6 0 M _ _ _ hw hP hS (lv_sub hl [1, 2, 3, 4, 0] rfl)
  unfold wpX7_digestOfStates at hw
  refine lv_lload_n hx hb dX7_digestOfStates_0 rfl (lv_at hl 1 rfl) ?_
  refine lv_lstore_n (lv' := [(3, .long p1), (0, .ref (ad 0)), (1, .long p1)]) hx hb dX7_digestOfStates_1 rfl hl (by decide) rfl (fun ls hl => ?_)
  refine lv_aload_n hx hb dX7_digestOfStates_2 rfl (lv_at hl 1 rfl) ?_
  refine pt_get F hP (pt_c7 _ pt_k0) (pt_l7 pt_k0) inX7 rfl 0 (by decide) kw_370 rfl rfl dX7_digestOfStates_3 ?_
  refine lv_aload_n hx hb dX7_digestOfStates_6 rfl (lv_at hl 1 rfl) ?_
  refine pt_get F hP (pt_c7 _ pt_k0) (pt_l7 pt_k0) inX7 rfl 1 (by decide) kw_371 rfl rfl dX7_digestOfStates_7 ?_
  refine pt_get F hP (pt_c3 _ pt_k125) (pt_l3 pt_k125) inX3 rfl 1 (by decide) kw_292 rfl rfl dX7_digestOfStates_10 ?_
  refine pt_get F hP (pt_c4 _ (pt_3s pt_k125)) (pt_l4 (pt_3s pt_k125)) inX4 rfl 3 (by decide) kw_279 rfl rfl dX7_digestOfStates_13 ?_
  refine pt_calli (pt_runV (n := 1) (As := [.int (M (125 + 1) 3)]) (rest := []) F hP (pt_c1 _ pt_k1) (pt_l1 pt_k1) rfl (mtX1_endedAmong l D cA ad hI _ (M (125 + 1) 3) M _ hw) kw_473 kw_470 kw_53 kw_471 kw_472 ⟨by decide, by decide, by decide +kernel⟩ ⟨rfl, rfl, Nat.le_of_ble_eq_true rfl, Nat.le_of_ble_eq_true rfl⟩ rfl hl.1 rfl (Nat.le_of_ble_eq_true rfl) dX7_digestOfStates_16 ⟨Nat.zero_le _, Nat.zero_le _⟩) hS (fun _ h => h) (fun r_16 M_16 H locs hw hP hS _ _ => ?_)
  refine lv_istore (lv' := [(5, .int r_16), (3, .long p1), (0, .ref (ad 0)), (1, .long p1)]) hx hb dX7_digestOfStates_19 hl (by decide) rfl (fun ls hl => ?_)
  refine lv_iconst (v := 0) hx hb dX7_digestOfStates_21 (by decide) ?_
  refine lv_istore (lv' := [(6, .int 0), (5, .int r_16), (3, .long p1), (0, .ref (ad 0)), (1, .long p1)]) hx hb dX7_digestOfStates_22 hl (by decide) rfl (fun ls hl => ?_)
  obtain ⟨n_, hw⟩ := hw
  exact L24 n_ p1 r_16 0 M_16 _ _ _ hw hP hS (lv_sub hl [3, 2, 1, 0] rfl)
-- ===== X7_digest
def lbX7_digest_206  (Q : Int64 → pt_M → Prop)  (R206 : Int64 → Int32 → pt_M → Prop) (x1 : Int64) (x3 : Int32) (M : pt_M) : Prop :=
  (8 ≤ x3 → Q x1 M) ∧ (¬ 8 ≤ x3 → wpX7_rowAt x3 M (fun (r_219 : Int32) (M_219 : pt_M) => ∀ x1_224 : Int64, x1_224 = ((x1 * 31) + (Int32.toInt64 r_219)) → ∀ x3_225 : Int32, x3_225 = x3 + 1 → R206 x1_224 x3_225 M_219))
def lpX7_digest_206  (Q : Int64 → pt_M → Prop)  : Nat → Int64 → Int32 → pt_M → Prop
  | 0 => fun _ _ _ => False
  | n + 1 => fun x1 x3 M => lbX7_digest_206 Q (lpX7_digest_206 Q n) x1 x3 M
def lbX7_digest_174  (Q : Int64 → pt_M → Prop)  (R174 : Int64 → Int32 → pt_M → Prop) (x1 : Int64) (x3 : Int32) (M : pt_M) : Prop :=
  ((M 1 4) ≤ x3 → ∃ n : Nat, lpX7_digest_206 Q n x1 0 M) ∧ (¬ (M 1 4) ≤ x3 → wpX7_fired x3 M (fun (r_192 : Int32) (M_192 : pt_M) => ∀ x1_197 : Int64, x1_197 = ((x1 * 31) + (Int32.toInt64 r_192)) → ∀ x3_198 : Int32, x3_198 = x3 + 1 → R174 x1_197 x3_198 M_192))
def lpX7_digest_174  (Q : Int64 → pt_M → Prop)  : Nat → Int64 → Int32 → pt_M → Prop
  | 0 => fun _ _ _ => False
  | n + 1 => fun x1 x3 M => lbX7_digest_174 Q (lpX7_digest_174 Q n) x1 x3 M
def lbX7_digest_148  (Q : Int64 → pt_M → Prop)  (R148 : Int64 → Int32 → pt_M → Prop) (x1 : Int64) (x3 : Int32) (M : pt_M) : Prop :=
  (4 ≤ x3 → ∃ n : Nat, lpX7_digest_174 Q n x1 0 M) ∧ (¬ 4 ≤ x3 → wpX7_variable x3 M (fun (r_160 : Int32) (M_160 : pt_M) => ∀ x1_165 : Int64, x1_165 = ((x1 * 31) + (Int32.toInt64 r_160)) → ∀ x3_166 : Int32, x3_166 = x3 + 1 → R148 x1_165 x3_166 M_160))
def lpX7_digest_148  (Q : Int64 → pt_M → Prop)  : Nat → Int64 → Int32 → pt_M → Prop
  | 0 => fun _ _ _ => False
  | n + 1 => fun x1 x3 M => lbX7_digest_148 Q (lpX7_digest_148 Q n) x1 x3 M
def wjX7_digest_77  (Q : Int64 → pt_M → Prop)  (xs0 : Int64) (xs1 : Int32) (M : pt_M) : Prop :=
  ∀ x1_79 : Int64, x1_79 = (xs0 + (Int32.toInt64 xs1)) → wpX7_clock M (fun (r_86 : Int32) (M_86 : pt_M) => ∀ x1_91 : Int64, x1_91 = ((x1_79 * 31) + (Int32.toInt64 r_86)) → wpX7_covered M_86 (fun (r_98 : Int32) (M_98 : pt_M) => ∀ x1_103 : Int64, x1_103 = ((x1_91 * 31) + (Int32.toInt64 r_98)) → wpX7_lost M_98 (fun (r_110 : Int32) (M_110 : pt_M) => ∀ x1_115 : Int64, x1_115 = ((x1_103 * 31) + (Int32.toInt64 r_110)) → wpX7_restless M_110 (fun (r_122 : Int32) (M_122 : pt_M) => ∀ x1_127 : Int64, x1_127 = ((x1_115 * 31) + (Int32.toInt64 r_122)) → wpX7_looked M_122 (fun (r_134 : Int32) (M_134 : pt_M) => ∀ x1_139 : Int64, x1_139 = ((x1_127 * 31) + (Int32.toInt64 r_134)) → wpX7_digestOfStates x1_139 M_134 (fun (r_142 : Int64) (M_142 : pt_M) => ∃ n : Nat, lpX7_digest_148 Q n r_142 0 M_142))))))
def wjX7_digest_45  (Q : Int64 → pt_M → Prop)  (xs0 : Int64) (xs1 : Int32) (M : pt_M) : Prop :=
  ∀ x1_47 : Int64, x1_47 = (xs0 + (Int32.toInt64 xs1)) → wpX7_active M (fun (r_54 : Int32) (M_54 : pt_M) => ∀ x1_59 : Int64, x1_59 = ((x1_47 * 31) + (Int32.toInt64 r_54)) → wpX7_isOver M_54 (fun (r_66 : Int32) (M_66 : pt_M) => (r_66 = 0 → wjX7_digest_77 Q (x1_59 * 31) 0 M_66) ∧ (¬ r_66 = 0 → wjX7_digest_77 Q (x1_59 * 31) 1 M_66)))
def wpX7_digest  (M : pt_M) (Q : Int64 → pt_M → Prop) : Prop :=
  wpX7_states M (fun (r_10 : Int32) (M_10 : pt_M) => ∀ x1_15 : Int64, x1_15 = ((58059 * 31) + (Int32.toInt64 r_10)) → wpX7_transitions M_10 (fun (r_22 : Int32) (M_22 : pt_M) => ∀ x1_27 : Int64, x1_27 = ((x1_15 * 31) + (Int32.toInt64 r_22)) → wpX7_isRunning M_22 (fun (r_34 : Int32) (M_34 : pt_M) => (r_34 = 0 → wjX7_digest_45 Q (x1_27 * 31) 0 M_34) ∧ (¬ r_34 = 0 → wjX7_digest_45 Q (x1_27 * 31) 1 M_34))))
set_option maxHeartbeats 4000000 in
set_option maxRecDepth 100000 in
theorem mtX7_digest (l : Launch) (D : va_G) (cA : Nat → ClassId) (ad : Nat → Nat) (hI : pt_I ad) (sz : Nat) (M : pt_M) (Q : Int64 → pt_M → Prop) (hw : wpX7_digest M Q) : Met l yX7_digest (Cond.code yX7_digest cX7_digest 4 (some .long) :: lw_all) ({ frames := 4, cells := 0, slots := 0, locals := 93 } : Room) (va_Pc [.ref (ad 0)] (pt_P D cA ad sz M)) (va_Ql Q (pt_B D cA ad) (pt_fr ad sz)) 0 0 (pt_fr ad sz) := by
  refine Met.ofW (cc := cX7_digest) (maxL := 4) (ret := (some .long)) (by decide) rfl ?_
  intro p e s m args below meth c s₁ B hml hv
  obtain ⟨rfl, hsz, hP, hK⟩ := hv
  have hx := B.exec
  have hb := B.bytes
  have hr := B.returns
  have hts0 := atoms_spec (ws := (Cond.code yX7_digest cX7_digest 4 (some .long) :: lw_all)) B.pre
  have hown : s.vm.findClass RX7 = some m.cls := findClass_of_methodNamed B.named
  have hlocks := B.notSynchronized
  subst hsz
  have F : pt_F p m c cX7_digest 4 s _ RX7 D cA := ⟨⟨hx, hb, hml, hown, fun w h => hts0 w (List.mem_cons_of_mem _ h)⟩, hK⟩
  have hD : ∀ M, va_D (pt_fr ad s.heap.size) (pt_W cA ad M) := pt_D hI (fun k h => Or.inl ⟨k, h, rfl⟩)
  have hS : va_S (pt_fr ad s.heap.size) s.heap s.heap [] := va_S.rf
  have hl := lv_entry ([.ref (ad 0)]) (n := 4) (Nat.le_of_ble_eq_true rfl)
  rw [lg_entry_eq]
  generalize (lg_sl ([.ref (ad 0)]) ++ List.replicate (4 - (lg_sl ([.ref (ad 0)])).length) Slot.unset).toArray = ls at hl ⊢
  have hl : lv_has ls 4 [(0, .ref (ad 0))] := hl
  have L206 : ∀ (n206 : Nat) (x1 : Int64) (x3 : Int32) (M : pt_M) (H : Heap) (locs : List Loc) (ls : Array Slot), lpX7_digest_206 Q n206 x1 x3 M → va_P D pt_cl (pt_W cA ad M) H → va_S (pt_fr ad s.heap.size) s.heap H locs → lv_has ls 4 [(0, .ref (ad 0)), (1, .long x1), (3, .int x3)] → W p l e (headSpec (Cond.code yX7_digest cX7_digest 4 (some .long) :: lw_all) ({ frames := 4, cells := 0, slots := 0, locals := 93 } : Room)).room s m ([.ref (ad 0)] : List Value).toArray below meth c H locs 0 0 (MQ below (va_Ql Q (pt_B D cA ad) (pt_fr ad s.heap.size)) ([.ref (ad 0)] : List Value).toArray s 0 0 (pt_fr ad s.heap.size)) (F0 m 206 ls []) := by
    intro n206
    induction n206 with
    | zero => intro x1 x3 M H locs ls hw; exact hw.elim
    | succ n206 ih206 =>
      intro x1 x3 M H locs ls hw hP hS hl
      replace hw : lbX7_digest_206 Q (lpX7_digest_206 Q n206) x1 x3 M := hw
      unfold lbX7_digest_206 at hw
      refine lv_iload_n hx hb dX7_digest_206 rfl (lv_at hl 2 rfl) ?_
      refine lv_bipush (v := 8) hx hb dX7_digest_207 (by decide) ?_
      refine lv_icmp_ge (tgt := 231) hx hb dX7_digest_209 (by decide) (fun hc209 => ?_) (fun hc209 => ?_)
      · replace hw := hw.1 hc209
        refine lv_lload_n hx hb dX7_digest_231 rfl (lv_at hl 1 rfl) ?_
        exact W.lret (v := x1) hx hb hr (fun t ht hW => ⟨⟨x1, M, rfl, hw, by unfold pt_B; rw [ht]; exact hP⟩, hS.F ht⟩) hS.2.2 dX7_digest_232
      · replace hw := hw.2 hc209
        refine lv_lload_n hx hb dX7_digest_212 rfl (lv_at hl 1 rfl) ?_
        refine lv_ldc2 (v := 31) hx hb hown (F.1.2.2.2.2 _ kw_455) dX7_digest_213 ?_
        refine lv_lmul hx hb dX7_digest_216 ?_
        refine lv_aload_n hx hb dX7_digest_217 rfl (lv_at hl 0 rfl) ?_
        refine lv_iload_n hx hb dX7_digest_218 rfl (lv_at hl 2 rfl) ?_
        refine pt_calli (pt_runV (n := 1) (As := [.int x3]) (rest := [.long (x1 * 31)]) F hP (pt_c7 _ pt_k0) (pt_l7 pt_k0) rfl (mtX7_rowAt l D cA ad hI _ x3 M _ hw) kw_429 kw_584 kw_52 kw_427 kw_428 ⟨by decide, by decide, by decide +kernel⟩ ⟨rfl, rfl, Nat.le_of_ble_eq_true rfl, Nat.le_of_ble_eq_true rfl⟩ rfl hl.1 rfl (Nat.le_of_ble_eq_true rfl) dX7_digest_219 ⟨Nat.zero_le _, Nat.zero_le _⟩) hS (fun _ h => h) (fun r_219 M_219 H locs hw hP hS _ _ => ?_)
        refine lv_i2l hx hb dX7_digest_222 rfl ?_
        refine lv_ladd hx hb dX7_digest_223 ?_
        refine lv_topl (fun x1_224 ex1_224 => ?_)
        replace hw := hw x1_224 ex1_224
        refine lv_lstore_n (lv' := [(1, .long x1_224), (0, .ref (ad 0)), (3, .int x3)]) hx hb dX7_digest_224 rfl hl (by decide) rfl (fun ls hl => ?_)
        obtain ⟨x3_225, ex3_225⟩ : ∃ y : Int32, y = x3 + 1 := ⟨_, rfl⟩
        replace hw := hw x3_225 ex3_225
        refine lv_iinc (v := x3_225) (lv' := [(3, .int x3_225), (1, .long x1_224), (0, .ref (ad 0))]) hx hb dX7_digest_225 hl (k := 2) rfl (by rw [ex3_225]; rfl) (by decide) rfl (fun ls hl => ?_)
        refine lv_goto (tgt := 206) hx hb dX7_digest_228 (by decide) ?_
        exact ih206 x1_224 x3_225 M_219 _ _ _ hw hP hS (lv_sub hl [2, 1, 0] rfl)
  have L174 : ∀ (n174 : Nat) (x1 : Int64) (x3 : Int32) (M : pt_M) (H : Heap) (locs : List Loc) (ls : Array Slot), lpX7_digest_174 Q n174 x1 x3 M → va_P D pt_cl (pt_W cA ad M) H → va_S (pt_fr ad s.heap.size) s.heap H locs → lv_has ls 4 [(0, .ref (ad 0)), (1, .long x1), (3, .int x3)] → W p l e (headSpec (Cond.code yX7_digest cX7_digest 4 (some .long) :: lw_all) ({ frames := 4, cells := 0, slots := 0, locals := 93 } : Room)).room s m ([.ref (ad 0)] : List Value).toArray below meth c H locs 0 0 (MQ below (va_Ql Q (pt_B D cA ad) (pt_fr ad s.heap.size)) ([.ref (ad 0)] : List Value).toArray s 0 0 (pt_fr ad s.heap.size)) (F0 m 174 ls []) := by
    intro n174
    induction n174 with
    | zero => intro x1 x3 M H locs ls hw; exact hw.elim
    | succ n174 ih174 =>
      intro x1 x3 M H locs ls hw hP hS hl
      replace hw : lbX7_digest_174 Q (lpX7_digest_174 Q n174) x1 x3 M := hw
      unfold lbX7_digest_174 at hw
      refine lv_iload_n hx hb dX7_digest_174 rfl (lv_at hl 2 rfl) ?_
      refine lv_aload_n hx hb dX7_digest_175 rfl (lv_at hl 0 rfl) ?_
      refine pt_get F hP (pt_c7 _ pt_k0) (pt_l7 pt_k0) inX7 rfl 0 (by decide) kw_370 rfl rfl dX7_digest_176 ?_
      refine pt_get F hP (pt_c1 _ pt_k1) (pt_l1 pt_k1) inX1 rfl 4 (by decide) kw_234 rfl rfl dX7_digest_179 ?_
      refine lv_icmp_ge (tgt := 204) hx hb dX7_digest_182 (by decide) (fun hc182 => ?_) (fun hc182 => ?_)
      · replace hw := hw.1 hc182
        refine lv_iconst (v := 0) hx hb dX7_digest_204 (by decide) ?_
        refine lv_istore_n (lv' := [(3, .int 0), (0, .ref (ad 0)), (1, .long x1)]) hx hb dX7_digest_205 rfl hl (by decide) rfl (fun ls hl => ?_)
        obtain ⟨n_, hw⟩ := hw
        exact L206 n_ x1 0 M _ _ _ hw hP hS (lv_sub hl [1, 2, 0] rfl)
      · replace hw := hw.2 hc182
        refine lv_lload_n hx hb dX7_digest_185 rfl (lv_at hl 1 rfl) ?_
        refine lv_ldc2 (v := 31) hx hb hown (F.1.2.2.2.2 _ kw_455) dX7_digest_186 ?_
        refine lv_lmul hx hb dX7_digest_189 ?_
        refine lv_aload_n hx hb dX7_digest_190 rfl (lv_at hl 0 rfl) ?_
        refine lv_iload_n hx hb dX7_digest_191 rfl (lv_at hl 2 rfl) ?_
        refine pt_calli (pt_runV (n := 1) (As := [.int x3]) (rest := [.long (x1 * 31)]) F hP (pt_c7 _ pt_k0) (pt_l7 pt_k0) rfl (mtX7_fired l D cA ad hI _ x3 M _ hw) kw_579 kw_576 kw_52 kw_577 kw_578 ⟨by decide, by decide, by decide +kernel⟩ ⟨rfl, rfl, Nat.le_of_ble_eq_true rfl, Nat.le_of_ble_eq_true rfl⟩ rfl hl.1 rfl (Nat.le_of_ble_eq_true rfl) dX7_digest_192 ⟨Nat.zero_le _, Nat.zero_le _⟩) hS (fun _ h => h) (fun r_192 M_192 H locs hw hP hS _ _ => ?_)
        refine lv_i2l hx hb dX7_digest_195 rfl ?_
        refine lv_ladd hx hb dX7_digest_196 ?_
        refine lv_topl (fun x1_197 ex1_197 => ?_)
        replace hw := hw x1_197 ex1_197
        refine lv_lstore_n (lv' := [(1, .long x1_197), (0, .ref (ad 0)), (3, .int x3)]) hx hb dX7_digest_197 rfl hl (by decide) rfl (fun ls hl => ?_)
        obtain ⟨x3_198, ex3_198⟩ : ∃ y : Int32, y = x3 + 1 := ⟨_, rfl⟩
        replace hw := hw x3_198 ex3_198
        refine lv_iinc (v := x3_198) (lv' := [(3, .int x3_198), (1, .long x1_197), (0, .ref (ad 0))]) hx hb dX7_digest_198 hl (k := 2) rfl (by rw [ex3_198]; rfl) (by decide) rfl (fun ls hl => ?_)
        refine lv_goto (tgt := 174) hx hb dX7_digest_201 (by decide) ?_
        exact ih174 x1_197 x3_198 M_192 _ _ _ hw hP hS (lv_sub hl [2, 1, 0] rfl)
  have L148 : ∀ (n148 : Nat) (x1 : Int64) (x3 : Int32) (M : pt_M) (H : Heap) (locs : List Loc) (ls : Array Slot), lpX7_digest_148 Q n148 x1 x3 M → va_P D pt_cl (pt_W cA ad M) H → va_S (pt_fr ad s.heap.size) s.heap H locs → lv_has ls 4 [(0, .ref (ad 0)), (1, .long x1), (3, .int x3)] → W p l e (headSpec (Cond.code yX7_digest cX7_digest 4 (some .long) :: lw_all) ({ frames := 4, cells := 0, slots := 0, locals := 93 } : Room)).room s m ([.ref (ad 0)] : List Value).toArray below meth c H locs 0 0 (MQ below (va_Ql Q (pt_B D cA ad) (pt_fr ad s.heap.size)) ([.ref (ad 0)] : List Value).toArray s 0 0 (pt_fr ad s.heap.size)) (F0 m 148 ls []) := by
    intro n148
    induction n148 with
    | zero => intro x1 x3 M H locs ls hw; exact hw.elim
    | succ n148 ih148 =>
      intro x1 x3 M H locs ls hw hP hS hl
      replace hw : lbX7_digest_148 Q (lpX7_digest_148 Q n148) x1 x3 M := hw
      unfold lbX7_digest_148 at hw
      refine lv_iload_n hx hb dX7_digest_148 rfl (lv_at hl 2 rfl) ?_
      refine lv_iconst (v := 4) hx hb dX7_digest_149 (by decide) ?_
      refine lv_icmp_ge (tgt := 172) hx hb dX7_digest_150 (by decide) (fun hc150 => ?_) (fun hc150 => ?_)
      · replace hw := hw.1 hc150
        refine lv_iconst (v := 0) hx hb dX7_digest_172 (by decide) ?_
        refine lv_istore_n (lv' := [(3, .int 0), (0, .ref (ad 0)), (1, .long x1)]) hx hb dX7_digest_173 rfl hl (by decide) rfl (fun ls hl => ?_)
        obtain ⟨n_, hw⟩ := hw
        exact L174 n_ x1 0 M _ _ _ hw hP hS (lv_sub hl [1, 2, 0] rfl)
      · replace hw := hw.2 hc150
        refine lv_lload_n hx hb dX7_digest_153 rfl (lv_at hl 1 rfl) ?_
        refine lv_ldc2 (v := 31) hx hb hown (F.1.2.2.2.2 _ kw_455) dX7_digest_154 ?_
        refine lv_lmul hx hb dX7_digest_157 ?_
        refine lv_aload_n hx hb dX7_digest_158 rfl (lv_at hl 0 rfl) ?_
        refine lv_iload_n hx hb dX7_digest_159 rfl (lv_at hl 2 rfl) ?_
        refine pt_calli (pt_runV (n := 1) (As := [.int x3]) (rest := [.long (x1 * 31)]) F hP (pt_c7 _ pt_k0) (pt_l7 pt_k0) rfl (mtX7_variable l D cA ad hI _ x3 M _ hw) kw_575 kw_572 kw_52 kw_573 kw_574 ⟨by decide, by decide, by decide +kernel⟩ ⟨rfl, rfl, Nat.le_of_ble_eq_true rfl, Nat.le_of_ble_eq_true rfl⟩ rfl hl.1 rfl (Nat.le_of_ble_eq_true rfl) dX7_digest_160 ⟨Nat.zero_le _, Nat.zero_le _⟩) hS (fun _ h => h) (fun r_160 M_160 H locs hw hP hS _ _ => ?_)
        refine lv_i2l hx hb dX7_digest_163 rfl ?_
        refine lv_ladd hx hb dX7_digest_164 ?_
        refine lv_topl (fun x1_165 ex1_165 => ?_)
        replace hw := hw x1_165 ex1_165
        refine lv_lstore_n (lv' := [(1, .long x1_165), (0, .ref (ad 0)), (3, .int x3)]) hx hb dX7_digest_165 rfl hl (by decide) rfl (fun ls hl => ?_)
        obtain ⟨x3_166, ex3_166⟩ : ∃ y : Int32, y = x3 + 1 := ⟨_, rfl⟩
        replace hw := hw x3_166 ex3_166
        refine lv_iinc (v := x3_166) (lv' := [(3, .int x3_166), (1, .long x1_165), (0, .ref (ad 0))]) hx hb dX7_digest_166 hl (k := 2) rfl (by rw [ex3_166]; rfl) (by decide) rfl (fun ls hl => ?_)
        refine lv_goto (tgt := 148) hx hb dX7_digest_169 (by decide) ?_
        exact ih148 x1_165 x3_166 M_160 _ _ _ hw hP hS (lv_sub hl [2, 1, 0] rfl)
  have J77 : ∀ (xs0 : Int64) (xs1 : Int32) (M : pt_M) (H : Heap) (locs : List Loc) (ls : Array Slot), wjX7_digest_77 Q xs0 xs1 M → va_P D pt_cl (pt_W cA ad M) H → va_S (pt_fr ad s.heap.size) s.heap H locs → lv_has ls 4 [(0, .ref (ad 0))] → W p l e (headSpec (Cond.code yX7_digest cX7_digest 4 (some .long) :: lw_all) ({ frames := 4, cells := 0, slots := 0, locals := 93 } : Room)).room s m ([.ref (ad 0)] : List Value).toArray below meth c H locs 0 0 (MQ below (va_Ql Q (pt_B D cA ad) (pt_fr ad s.heap.size)) ([.ref (ad 0)] : List Value).toArray s 0 0 (pt_fr ad s.heap.size)) (F0 m 77 ls [.int xs1, .long xs0]) := by
    intro xs0 xs1 M H locs ls hw hP hS hl
    unfold wjX7_digest_77 at hw
    refine lv_i2l hx hb dX7_digest_77 rfl ?_
    refine lv_ladd hx hb dX7_digest_78 ?_
    refine lv_topl (fun x1_79 ex1_79 => ?_)
    replace hw := hw x1_79 ex1_79
    refine lv_lstore_n (lv' := [(1, .long x1_79), (0, .ref (ad 0))]) hx hb dX7_digest_79 rfl hl (by decide) rfl (fun ls hl => ?_)
    refine lv_lload_n hx hb dX7_digest_80 rfl (lv_at hl 0 rfl) ?_
    refine lv_ldc2 (v := 31) hx hb hown (F.1.2.2.2.2 _ kw_455) dX7_digest_81 ?_
    refine lv_lmul hx hb dX7_digest_84 ?_
    refine lv_aload_n hx hb dX7_digest_85 rfl (lv_at hl 1 rfl) ?_
    refine pt_calli (pt_runV (n := 0) (As := []) (rest := [.long (x1_79 * 31)]) F hP (pt_c7 _ pt_k0) (pt_l7 pt_k0) rfl (mtX7_clock l D cA ad hI _ M _ hw) kw_413 kw_461 kw_52 kw_411 kw_412 ⟨by decide, by decide, by decide +kernel⟩ ⟨rfl, rfl, Nat.le_of_ble_eq_true rfl, Nat.le_of_ble_eq_true rfl⟩ rfl hl.1 rfl (Nat.le_of_ble_eq_true rfl) dX7_digest_86 ⟨Nat.zero_le _, Nat.zero_le _⟩) hS (fun _ h => h) (fun r_86 M_86 H locs hw hP hS _ _ => ?_)
    refine lv_i2l hx hb dX7_digest_89 rfl ?_
    refine lv_ladd hx hb dX7_digest_90 ?_
    refine lv_topl (fun x1_91 ex1_91 => ?_)
    replace hw := hw x1_91 ex1_91
    refine lv_lstore_n (lv' := [(1, .long x1_91), (0, .ref (ad 0))]) hx hb dX7_digest_91 rfl hl (by decide) rfl (fun ls hl => ?_)
    refine lv_lload_n hx hb dX7_digest_92 rfl (lv_at hl 0 rfl) ?_
    refine lv_ldc2 (v := 31) hx hb hown (F.1.2.2.2.2 _ kw_455) dX7_digest_93 ?_
    refine lv_lmul hx hb dX7_digest_96 ?_
    refine lv_aload_n hx hb dX7_digest_97 rfl (lv_at hl 1 rfl) ?_
    refine pt_calli (pt_runV (n := 0) (As := []) (rest := [.long (x1_91 * 31)]) F hP (pt_c7 _ pt_k0) (pt_l7 pt_k0) rfl (mtX7_covered l D cA ad hI _ M_86 _ hw) kw_417 kw_462 kw_52 kw_415 kw_416 ⟨by decide, by decide, by decide +kernel⟩ ⟨rfl, rfl, Nat.le_of_ble_eq_true rfl, Nat.le_of_ble_eq_true rfl⟩ rfl hl.1 rfl (Nat.le_of_ble_eq_true rfl) dX7_digest_98 ⟨Nat.zero_le _, Nat.zero_le _⟩) hS (fun _ h => h) (fun r_98 M_98 H locs hw hP hS _ _ => ?_)
    refine lv_i2l hx hb dX7_digest_101 rfl ?_
    refine lv_ladd hx hb dX7_digest_102 ?_
    refine lv_topl (fun x1_103 ex1_103 => ?_)
    replace hw := hw x1_103 ex1_103
    refine lv_lstore_n (lv' := [(1, .long x1_103), (0, .ref (ad 0))]) hx hb dX7_digest_103 rfl hl (by decide) rfl (fun ls hl => ?_)
    refine lv_lload_n hx hb dX7_digest_104 rfl (lv_at hl 0 rfl) ?_
    refine lv_ldc2 (v := 31) hx hb hown (F.1.2.2.2.2 _ kw_455) dX7_digest_105 ?_
    refine lv_lmul hx hb dX7_digest_108 ?_
    refine lv_aload_n hx hb dX7_digest_109 rfl (lv_at hl 1 rfl) ?_
    refine pt_calli (pt_runV (n := 0) (As := []) (rest := [.long (x1_103 * 31)]) F hP (pt_c7 _ pt_k0) (pt_l7 pt_k0) rfl (mtX7_lost l D cA ad hI _ M_98 _ hw) kw_421 kw_463 kw_52 kw_419 kw_420 ⟨by decide, by decide, by decide +kernel⟩ ⟨rfl, rfl, Nat.le_of_ble_eq_true rfl, Nat.le_of_ble_eq_true rfl⟩ rfl hl.1 rfl (Nat.le_of_ble_eq_true rfl) dX7_digest_110 ⟨Nat.zero_le _, Nat.zero_le _⟩) hS (fun _ h => h) (fun r_110 M_110 H locs hw hP hS _ _ => ?_)
    refine lv_i2l hx hb dX7_digest_113 rfl ?_
    refine lv_ladd hx hb dX7_digest_114 ?_
    refine lv_topl (fun x1_115 ex1_115 => ?_)
    replace hw := hw x1_115 ex1_115
    refine lv_lstore_n (lv' := [(1, .long x1_115), (0, .ref (ad 0))]) hx hb dX7_digest_115 rfl hl (by decide) rfl (fun ls hl => ?_)
    refine lv_lload_n hx hb dX7_digest_116 rfl (lv_at hl 0 rfl) ?_
    refine lv_ldc2 (v := 31) hx hb hown (F.1.2.2.2.2 _ kw_455) dX7_digest_117 ?_
    refine lv_lmul hx hb dX7_digest_120 ?_
    refine lv_aload_n hx hb dX7_digest_121 rfl (lv_at hl 1 rfl) ?_
    refine pt_calli (pt_runV (n := 0) (As := []) (rest := [.long (x1_115 * 31)]) F hP (pt_c7 _ pt_k0) (pt_l7 pt_k0) rfl (mtX7_restless l D cA ad hI _ M_110 _ hw) kw_425 kw_464 kw_52 kw_423 kw_424 ⟨by decide, by decide, by decide +kernel⟩ ⟨rfl, rfl, Nat.le_of_ble_eq_true rfl, Nat.le_of_ble_eq_true rfl⟩ rfl hl.1 rfl (Nat.le_of_ble_eq_true rfl) dX7_digest_122 ⟨Nat.zero_le _, Nat.zero_le _⟩) hS (fun _ h => h) (fun r_122 M_122 H locs hw hP hS _ _ => ?_)
    refine lv_i2l hx hb dX7_digest_125 rfl ?_
    refine lv_ladd hx hb dX7_digest_126 ?_
    refine lv_topl (fun x1_127 ex1_127 => ?_)
    replace hw := hw x1_127 ex1_127
    refine lv_lstore_n (lv' := [(1, .long x1_127), (0, .ref (ad 0))]) hx hb dX7_digest_127 rfl hl (by decide) rfl (fun ls hl => ?_)
    refine lv_lload_n hx hb dX7_digest_128 rfl (lv_at hl 0 rfl) ?_
    refine lv_ldc2 (v := 31) hx hb hown (F.1.2.2.2.2 _ kw_455) dX7_digest_129 ?_
    refine lv_lmul hx hb dX7_digest_132 ?_
    refine lv_aload_n hx hb dX7_digest_133 rfl (lv_at hl 1 rfl) ?_
    refine pt_calli (pt_runV (n := 0) (As := []) (rest := [.long (x1_127 * 31)]) F hP (pt_c7 _ pt_k0) (pt_l7 pt_k0) rfl (mtX7_looked l D cA ad hI _ M_122 _ hw) kw_436 kw_465 kw_52 kw_434 kw_435 ⟨by decide, by decide, by decide +kernel⟩ ⟨rfl, rfl, Nat.le_of_ble_eq_true rfl, Nat.le_of_ble_eq_true rfl⟩ rfl hl.1 rfl (Nat.le_of_ble_eq_true rfl) dX7_digest_134 ⟨Nat.zero_le _, Nat.zero_le _⟩) hS (fun _ h => h) (fun r_134 M_134 H locs hw hP hS _ _ => ?_)
    refine lv_i2l hx hb dX7_digest_137 rfl ?_
    refine lv_ladd hx hb dX7_digest_138 ?_
    refine lv_topl (fun x1_139 ex1_139 => ?_)
    replace hw := hw x1_139 ex1_139
    refine lv_lstore_n (lv' := [(1, .long x1_139), (0, .ref (ad 0))]) hx hb dX7_digest_139 rfl hl (by decide) rfl (fun ls hl => ?_)
    refine lv_aload_n hx hb dX7_digest_140 rfl (lv_at hl 1 rfl) ?_
    refine lv_lload_n hx hb dX7_digest_141 rfl (lv_at hl 0 rfl) ?_
    refine pt_calll (pt_runV (n := 1) (As := [.long x1_139]) (rest := []) F hP (pt_c7 _ pt_k0) (pt_l7 pt_k0) rfl (mtX7_digestOfStates l D cA ad hI _ x1_139 M_134 _ hw) kw_469 kw_466 kw_52 kw_468 kw_0 ⟨by decide, by decide, by decide +kernel⟩ ⟨rfl, rfl, Nat.le_of_ble_eq_true rfl, Nat.le_of_ble_eq_true rfl⟩ rfl hl.1 rfl (Nat.le_of_ble_eq_true rfl) dX7_digest_142 ⟨Nat.zero_le _, Nat.zero_le _⟩) hS (fun _ h => h) (fun r_142 M_142 H locs hw hP hS _ _ => ?_)
    refine lv_lstore_n (lv' := [(1, .long r_142), (0, .ref (ad 0))]) hx hb dX7_digest_145 rfl hl (by decide) rfl (fun ls hl => ?_)
    refine lv_iconst (v := 0) hx hb dX7_digest_146 (by decide) ?_
    refine lv_istore_n (lv' := [(3, .int 0), (1, .long r_142), (0, .ref (ad 0))]) hx hb dX7_digest_147 rfl hl (by decide) rfl (fun ls hl => ?_)
    obtain ⟨n_, hw⟩ := hw
    exact L148 n_ r_142 0 M_142 _ _ _ hw hP hS (lv_sub hl [2, 1, 0] rfl)
  have J45 : ∀ (xs0 : Int64) (xs1 : Int32) (M : pt_M) (H : Heap) (locs : List Loc) (ls : Array Slot), wjX7_digest_45 Q xs0 xs1 M → va_P D pt_cl (pt_W cA ad M) H → va_S (pt_fr ad s.heap.size) s.heap H locs → lv_has ls 4 [(0, .ref (ad 0))] → W p l e (headSpec (Cond.code yX7_digest cX7_digest 4 (some .long) :: lw_all) ({ frames := 4, cells := 0, slots := 0, locals := 93 } : Room)).room s m ([.ref (ad 0)] : List Value).toArray below meth c H locs 0 0 (MQ below (va_Ql Q (pt_B D cA ad) (pt_fr ad s.heap.size)) ([.ref (ad 0)] : List Value).toArray s 0 0 (pt_fr ad s.heap.size)) (F0 m 45 ls [.int xs1, .long xs0]) := by
    intro xs0 xs1 M H locs ls hw hP hS hl
    unfold wjX7_digest_45 at hw
    refine lv_i2l hx hb dX7_digest_45 rfl ?_
    refine lv_ladd hx hb dX7_digest_46 ?_
    refine lv_topl (fun x1_47 ex1_47 => ?_)
    replace hw := hw x1_47 ex1_47
    refine lv_lstore_n (lv' := [(1, .long x1_47), (0, .ref (ad 0))]) hx hb dX7_digest_47 rfl hl (by decide) rfl (fun ls hl => ?_)
    refine lv_lload_n hx hb dX7_digest_48 rfl (lv_at hl 0 rfl) ?_
    refine lv_ldc2 (v := 31) hx hb hown (F.1.2.2.2.2 _ kw_455) dX7_digest_49 ?_
    refine lv_lmul hx hb dX7_digest_52 ?_
    refine lv_aload_n hx hb dX7_digest_53 rfl (lv_at hl 1 rfl) ?_
    refine pt_calli (pt_runV (n := 0) (As := []) (rest := [.long (x1_47 * 31)]) F hP (pt_c7 _ pt_k0) (pt_l7 pt_k0) rfl (mtX7_active l D cA ad hI _ M _ hw) kw_401 kw_459 kw_52 kw_399 kw_400 ⟨by decide, by decide, by decide +kernel⟩ ⟨rfl, rfl, Nat.le_of_ble_eq_true rfl, Nat.le_of_ble_eq_true rfl⟩ rfl hl.1 rfl (Nat.le_of_ble_eq_true rfl) dX7_digest_54 ⟨Nat.zero_le _, Nat.zero_le _⟩) hS (fun _ h => h) (fun r_54 M_54 H locs hw hP hS _ _ => ?_)
    refine lv_i2l hx hb dX7_digest_57 rfl ?_
    refine lv_ladd hx hb dX7_digest_58 ?_
    refine lv_topl (fun x1_59 ex1_59 => ?_)
    replace hw := hw x1_59 ex1_59
    refine lv_lstore_n (lv' := [(1, .long x1_59), (0, .ref (ad 0))]) hx hb dX7_digest_59 rfl hl (by decide) rfl (fun ls hl => ?_)
    refine lv_lload_n hx hb dX7_digest_60 rfl (lv_at hl 0 rfl) ?_
    refine lv_ldc2 (v := 31) hx hb hown (F.1.2.2.2.2 _ kw_455) dX7_digest_61 ?_
    refine lv_lmul hx hb dX7_digest_64 ?_
    refine lv_aload_n hx hb dX7_digest_65 rfl (lv_at hl 1 rfl) ?_
    refine pt_calli (pt_runV (n := 0) (As := []) (rest := [.long (x1_59 * 31)]) F hP (pt_c7 _ pt_k0) (pt_l7 pt_k0) rfl (mtX7_isOver l D cA ad hI _ M_54 _ hw) kw_405 kw_460 kw_52 kw_403 kw_404 ⟨by decide, by decide, by decide +kernel⟩ ⟨rfl, rfl, Nat.le_of_ble_eq_true rfl, Nat.le_of_ble_eq_true rfl⟩ rfl hl.1 rfl (Nat.le_of_ble_eq_true rfl) dX7_digest_66 ⟨Nat.zero_le _, Nat.zero_le _⟩) hS (fun _ h => h) (fun r_66 M_66 H locs hw hP hS _ _ => ?_)
    refine lv_if_eq (tgt := 76) hx hb dX7_digest_69 (by decide) (fun hc69 => ?_) (fun hc69 => ?_)
    · replace hw := hw.1 hc69
      refine lv_iconst (v := 0) hx hb dX7_digest_76 (by decide) ?_
      exact J77 (x1_59 * 31) 0 M_66 _ _ _ hw hP hS (lv_sub hl [1] rfl)
    · replace hw := hw.2 hc69
      refine lv_iconst (v := 1) hx hb dX7_digest_72 (by decide) ?_
      refine lv_goto (tgt := 77) hx hb dX7_digest_73 (by decide) ?_
      exact J77 (x1_59 * 31) 1 M_66 _ _ _ hw hP hS (lv_sub hl [1] rfl)
  unfold wpX7_digest at hw
  refine lv_ldc2 (v := 58059) hx hb hown (F.1.2.2.2.2 _ kw_454) dX7_digest_0 ?_
  refine lv_lstore_n (lv' := [(1, .long 58059), (0, .ref (ad 0))]) hx hb dX7_digest_3 rfl hl (by decide) rfl (fun ls hl => ?_)
  refine lv_lload_n hx hb dX7_digest_4 rfl (lv_at hl 0 rfl) ?_
  refine lv_ldc2 (v := 31) hx hb hown (F.1.2.2.2.2 _ kw_455) dX7_digest_5 ?_
  refine lv_lmul hx hb dX7_digest_8 ?_
  refine lv_aload_n hx hb dX7_digest_9 rfl (lv_at hl 1 rfl) ?_
  refine pt_calli (pt_runV (n := 0) (As := []) (rest := [.long (58059 * 31)]) F hP (pt_c7 _ pt_k0) (pt_l7 pt_k0) rfl (mtX7_states l D cA ad hI _ M _ hw) kw_389 kw_456 kw_52 kw_387 kw_388 ⟨by decide, by decide, by decide +kernel⟩ ⟨rfl, rfl, Nat.le_of_ble_eq_true rfl, Nat.le_of_ble_eq_true rfl⟩ rfl hl.1 rfl (Nat.le_of_ble_eq_true rfl) dX7_digest_10 ⟨Nat.zero_le _, Nat.zero_le _⟩) hS (fun _ h => h) (fun r_10 M_10 H locs hw hP hS _ _ => ?_)
  refine lv_i2l hx hb dX7_digest_13 rfl ?_
  refine lv_ladd hx hb dX7_digest_14 ?_
  refine lv_topl (fun x1_15 ex1_15 => ?_)
  replace hw := hw x1_15 ex1_15
  refine lv_lstore_n (lv' := [(1, .long x1_15), (0, .ref (ad 0))]) hx hb dX7_digest_15 rfl hl (by decide) rfl (fun ls hl => ?_)
  refine lv_lload_n hx hb dX7_digest_16 rfl (lv_at hl 0 rfl) ?_
  refine lv_ldc2 (v := 31) hx hb hown (F.1.2.2.2.2 _ kw_455) dX7_digest_17 ?_
  refine lv_lmul hx hb dX7_digest_20 ?_
  refine lv_aload_n hx hb dX7_digest_21 rfl (lv_at hl 1 rfl) ?_
  refine pt_calli (pt_runV (n := 0) (As := []) (rest := [.long (x1_15 * 31)]) F hP (pt_c7 _ pt_k0) (pt_l7 pt_k0) rfl (mtX7_transitions l D cA ad hI _ M_10 _ hw) kw_393 kw_457 kw_52 kw_391 kw_392 ⟨by decide, by decide, by decide +kernel⟩ ⟨rfl, rfl, Nat.le_of_ble_eq_true rfl, Nat.le_of_ble_eq_true rfl⟩ rfl hl.1 rfl (Nat.le_of_ble_eq_true rfl) dX7_digest_22 ⟨Nat.zero_le _, Nat.zero_le _⟩) hS (fun _ h => h) (fun r_22 M_22 H locs hw hP hS _ _ => ?_)
  refine lv_i2l hx hb dX7_digest_25 rfl ?_
  refine lv_ladd hx hb dX7_digest_26 ?_
  refine lv_topl (fun x1_27 ex1_27 => ?_)
  replace hw := hw x1_27 ex1_27
  refine lv_lstore_n (lv' := [(1, .long x1_27), (0, .ref (ad 0))]) hx hb dX7_digest_27 rfl hl (by decide) rfl (fun ls hl => ?_)
  refine lv_lload_n hx hb dX7_digest_28 rfl (lv_at hl 0 rfl) ?_
  refine lv_ldc2 (v := 31) hx hb hown (F.1.2.2.2.2 _ kw_455) dX7_digest_29 ?_
  refine lv_lmul hx hb dX7_digest_32 ?_
  refine lv_aload_n hx hb dX7_digest_33 rfl (lv_at hl 1 rfl) ?_
  refine pt_calli (pt_runV (n := 0) (As := []) (rest := [.long (x1_27 * 31)]) F hP (pt_c7 _ pt_k0) (pt_l7 pt_k0) rfl (mtX7_isRunning l D cA ad hI _ M_22 _ hw) kw_397 kw_458 kw_52 kw_395 kw_396 ⟨by decide, by decide, by decide +kernel⟩ ⟨rfl, rfl, Nat.le_of_ble_eq_true rfl, Nat.le_of_ble_eq_true rfl⟩ rfl hl.1 rfl (Nat.le_of_ble_eq_true rfl) dX7_digest_34 ⟨Nat.zero_le _, Nat.zero_le _⟩) hS (fun _ h => h) (fun r_34 M_34 H locs hw hP hS _ _ => ?_)
  refine lv_if_eq (tgt := 44) hx hb dX7_digest_37 (by decide) (fun hc37 => ?_) (fun hc37 => ?_)
  · replace hw := hw.1 hc37
    refine lv_iconst (v := 0) hx hb dX7_digest_44 (by decide) ?_
    exact J45 (x1_27 * 31) 0 M_34 _ _ _ hw hP hS (lv_sub hl [1] rfl)
  · replace hw := hw.2 hc37
    refine lv_iconst (v := 1) hx hb dX7_digest_40 (by decide) ?_
    refine lv_goto (tgt := 45) hx hb dX7_digest_41 (by decide) ?_
    exact J45 (x1_27 * 31) 1 M_34 _ _ _ hw hP hS (lv_sub hl [1] rfl)
