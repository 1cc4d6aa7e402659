-- ===== X3_step
def wjX3_step_142 (k0 : Nat) (p1 : Int32) (Q : Int32 → pt_M → Prop) (R75 : Int32 → Int32 → pt_M → Prop) (x4 : Int32) (x5 : Int32) (M : pt_M) : Prop :=
  vp_in x5 30 ∧ (vp_in (M (k0 + 7) (Int32.toNatClampNeg x5)) 30 ∧ (vp_in (M (k0 + 7) (Int32.toNatClampNeg x5)) 30 ∧ ∀ M_157 : pt_M, M_157 = pt_st M (k0 + 5) (Int32.toNatClampNeg (M (k0 + 7) (Int32.toNatClampNeg x5))) ((M (k0 + 5) (Int32.toNatClampNeg (M (k0 + 7) (Int32.toNatClampNeg x5)))) + 1) → vp_in x5 30 ∧ (wpX7_setOf (M_157 (k0 + 7) (Int32.toNatClampNeg x5)) M_157 (fun (r_170 : Int32) (M_170 : pt_M) => ∀ M_174 : pt_M, M_174 = pt_st M_170 k0 3 ((M_157 k0 3) ||| r_170) → ∀ x5_177 : Int32, x5_177 = x5 + 1 → R75 x4 x5_177 M_174))))
def lbX3_step_75 (k0 : Nat) (p1 : Int32) (Q : Int32 → pt_M → Prop)  (R75 : Int32 → Int32 → pt_M → Prop) (x4 : Int32) (x5 : Int32) (M : pt_M) : Prop :=
  ((M k0 10) ≤ x5 → wpX3_enter k0 x4 M (fun (M_186 : pt_M) => Q (M_186 k0 10) M_186)) ∧ (¬ (M k0 10) ≤ x5 → vp_in x5 30 ∧ (vp_in (M (k0 + 7) (Int32.toNatClampNeg x5)) 30 ∧ (wpX3_act k0 ((pt_t (M (k0 + 7) (Int32.toNatClampNeg x5))) + 1) M (fun (M_107 : pt_M) => ((M_107 (pt_t (M (k0 + 7) (Int32.toNatClampNeg x5))) 4) = (-1) → wjX3_step_142 k0 p1 Q R75 x4 x5 M_107) ∧ (¬ (M_107 (pt_t (M (k0 + 7) (Int32.toNatClampNeg x5))) 4) = (-1) → wpX3_targetsOf k0 (pt_t (M (k0 + 7) (Int32.toNatClampNeg x5))) M_107 (fun (r_128 : Int32) (M_128 : pt_M) => wpX1_enteredInto r_128 (M_128 (pt_t (M (k0 + 7) (Int32.toNatClampNeg x5))) 5) M_128 (fun (r_136 : Int32) (M_136 : pt_M) => ∀ x4_140 : Int32, x4_140 = (x4 ||| r_136) → wjX3_step_142 k0 p1 Q R75 x4_140 x5 M_136)))))))
def lpX3_step_75 (k0 : Nat) (p1 : Int32) (Q : Int32 → pt_M → Prop)  : Nat → Int32 → Int32 → pt_M → Prop
  | 0 => fun _ _ _ => False
  | n + 1 => fun x4 x5 M => lbX3_step_75 k0 p1 Q (lpX3_step_75 k0 p1 Q n) x4 x5 M
def lbX3_step_22 (k0 : Nat) (p1 : Int32) (Q : Int32 → pt_M → Prop)  (R22 : Int32 → Int32 → pt_M → Prop) (x3 : Int32) (x4 : Int32) (M : pt_M) : Prop :=
  ((M k0 10) ≤ x4 → wpX3_makeRecords k0 x3 M (fun (M_61 : pt_M) => wpX3_leave k0 x3 M_61 (fun (M_66 : pt_M) => ∃ n : Nat, lpX3_step_75 k0 p1 Q n 0 0 M_66))) ∧ (¬ (M k0 10) ≤ x4 → vp_in x4 30 ∧ (vp_in (M (k0 + 7) (Int32.toNatClampNeg x4)) 30 ∧ (wpX3_leftBy k0 (pt_t (M (k0 + 7) (Int32.toNatClampNeg x4))) M (fun (r_48 : Int32) (M_48 : pt_M) => ∀ x3_52 : Int32, x3_52 = (x3 ||| r_48) → ∀ x4_53 : Int32, x4_53 = x4 + 1 → R22 x3_52 x4_53 M_48))))
def lpX3_step_22 (k0 : Nat) (p1 : Int32) (Q : Int32 → pt_M → Prop)  : Nat → Int32 → Int32 → pt_M → Prop
  | 0 => fun _ _ _ => False
  | n + 1 => fun x3 x4 M => lbX3_step_22 k0 p1 Q (lpX3_step_22 k0 p1 Q n) x3 x4 M
def wpX3_step (k0 : Nat) (p1 : Int32) (M : pt_M) (Q : Int32 → pt_M → Prop) : Prop :=
  wpX3_openBy k0 p1 M (fun (r_2 : Int32) (M_2 : pt_M) => (¬ r_2 = 0 → wpX3_choose k0 r_2 M_2 (fun (M_14 : pt_M) => ∃ n : Nat, lpX3_step_22 k0 p1 Q n 0 0 M_14)) ∧ (r_2 = 0 → Q 0 M_2))
set_option maxHeartbeats 4000000 in
set_option maxRecDepth 100000 in
theorem mtX3_step (l : Launch) (D : va_G) (cA : Nat → ClassId) (ad : Nat → Nat) (hI : pt_I ad) (sz : Nat) (k0 : Nat) (hk0 : pt_kd k0 = 3) (p1 : Int32) (M : pt_M) (Q : Int32 → pt_M → Prop) (hw : wpX3_step k0 p1 M Q) : Met l yX3_step (Cond.code yX3_step cX3_step 7 (some .int) :: lw_all) ({ frames := 4, cells := 0, slots := 0, locals := 89 } : Room) (va_Pc [.ref (ad k0), .int p1] (pt_P D cA ad sz M)) (va_Qi Q (pt_B D cA ad) (pt_fr ad sz)) 0 0 (pt_fr ad sz) := by
  refine Met.ofW (cc := cX3_step) (maxL := 7) (ret := (some .int)) (by decide) rfl ?_
  intro p e s m args below meth c s₁ B hml hv
  obtain ⟨rfl, hsz, hP, hK⟩ := hv
  have hx := B.exec
  have hb := B.bytes
  have hr := B.returns
  have hts0 := atoms_spec (ws := (Cond.code yX3_step cX3_step 7 (some .int) :: lw_all)) B.pre
  have hown : s.vm.findClass RX3 = some m.cls := findClass_of_methodNamed B.named
  have hlocks := B.notSynchronized
  subst hsz
  have F : pt_F p m c cX3_step 7 s _ RX3 D cA := ⟨⟨hx, hb, hml, hown, fun w h => hts0 w (List.mem_cons_of_mem _ h)⟩, hK⟩
  have hD : ∀ M, va_D (pt_fr ad s.heap.size) (pt_W cA ad M) := pt_D hI (fun k h => Or.inl ⟨k, h, rfl⟩)
  have hS : va_S (pt_fr ad s.heap.size) s.heap s.heap [] := va_S.rf
  have hl := lv_entry ([.ref (ad k0), .int p1]) (n := 7) (Nat.le_of_ble_eq_true rfl)
  rw [lg_entry_eq]
  generalize (lg_sl ([.ref (ad k0), .int p1]) ++ List.replicate (7 - (lg_sl ([.ref (ad k0), .int p1])).length) Slot.unset).toArray = ls at hl ⊢
  have hl : lv_has ls 7 [(0, .ref (ad k0)), (1, .int p1)] := hl
  have L75 : ∀ (n75 : Nat) (x4 : Int32) (x5 : Int32) (M : pt_M) (H : Heap) (locs : List Loc) (ls : Array Slot), lpX3_step_75 k0 p1 Q n75 x4 x5 M → va_P D pt_cl (pt_W cA ad M) H → va_S (pt_fr ad s.heap.size) s.heap H locs → lv_has ls 7 [(0, .ref (ad k0)), (4, .int x4), (5, .int x5)] → W p l e (headSpec (Cond.code yX3_step cX3_step 7 (some .int) :: lw_all) ({ frames := 4, cells := 0, slots := 0, locals := 89 } : Room)).room s m ([.ref (ad k0), .int p1] : List Value).toArray below meth c H locs 0 0 (MQ below (va_Qi Q (pt_B D cA ad) (pt_fr ad s.heap.size)) ([.ref (ad k0), .int p1] : List Value).toArray s 0 0 (pt_fr ad s.heap.size)) (F0 m 75 ls []) := by
    intro n75
    induction n75 with
    | zero => intro x4 x5 M H locs ls hw; exact hw.elim
    | succ n75 ih75 =>
      have J142 : ∀ (x4 : Int32) (x5 : Int32) (M : pt_M) (H : Heap) (locs : List Loc) (ls : Array Slot), wjX3_step_142 k0 p1 Q (lpX3_step_75 k0 p1 Q n75) x4 x5 M → va_P D pt_cl (pt_W cA ad M) H → va_S (pt_fr ad s.heap.size) s.heap H locs → lv_has ls 7 [(0, .ref (ad k0)), (4, .int x4), (5, .int x5)] → W p l e (headSpec (Cond.code yX3_step cX3_step 7 (some .int) :: lw_all) ({ frames := 4, cells := 0, slots := 0, locals := 89 } : Room)).room s m ([.ref (ad k0), .int p1] : List Value).toArray below meth c H locs 0 0 (MQ below (va_Qi Q (pt_B D cA ad) (pt_fr ad s.heap.size)) ([.ref (ad k0), .int p1] : List Value).toArray s 0 0 (pt_fr ad s.heap.size)) (F0 m 142 ls []) := by
        intro x4 x5 M H locs ls hw hP hS hl
        unfold wjX3_step_142 at hw
        refine lv_aload_n hx hb dX3_step_142 rfl (lv_at hl 0 rfl) ?_
        refine pt_get F hP (pt_c3 _ hk0) (pt_l3 hk0) inX3 rfl 2 (by decide) kw_293 rfl rfl dX3_step_143 ?_
        refine lv_aload_n hx hb dX3_step_146 rfl (lv_at hl 0 rfl) ?_
        refine pt_get F hP (pt_c3 _ hk0) (pt_l3 hk0) inX3 rfl 9 (by decide) kw_305 rfl rfl dX3_step_147 ?_
        refine lv_iload hx hb dX3_step_150 (lv_at hl 2 rfl) ?_
        have hv152 := hw.1
        replace hw := hw.2
        refine pt_iald F hP (pt_3t hk0) hv152 dX3_step_152 ?_
        refine lv_dup2_11 hx hb dX3_step_153 rfl rfl ?_
        have hv154 := hw.1
        replace hw := hw.2
        refine pt_iald F hP (pt_3f hk0) hv154 dX3_step_154 ?_
        refine lv_iconst (v := 1) hx hb dX3_step_155 (by decide) ?_
        refine lv_iadd hx hb dX3_step_156 ?_
        have hv157 := hw.1
        replace hw := hw.2
        refine pt_iast F hP hD hS (pt_3f hk0) hv157 dX3_step_157 (fun M_157 H locs eM_157 hP hS => ?_)
        replace hw := hw M_157 eM_157
        refine lv_aload_n hx hb dX3_step_158 rfl (lv_at hl 0 rfl) ?_
        refine lv_dup hx hb dX3_step_159 rfl ?_
        refine pt_get F hP (pt_c3 _ hk0) (pt_l3 hk0) inX3 rfl 3 (by decide) kw_296 rfl rfl dX3_step_160 ?_
        refine lv_aload_n hx hb dX3_step_163 rfl (lv_at hl 0 rfl) ?_
        refine pt_get F hP (pt_c3 _ hk0) (pt_l3 hk0) inX3 rfl 9 (by decide) kw_305 rfl rfl dX3_step_164 ?_
        refine lv_iload hx hb dX3_step_167 (lv_at hl 2 rfl) ?_
        have hv169 := hw.1
        replace hw := hw.2
        refine pt_iald F hP (pt_3t hk0) hv169 dX3_step_169 ?_
        refine pt_calli (pt_runSN (n := 1) (As := [.int (M_157 (k0 + 7) (Int32.toNatClampNeg x5))]) (rest := [.int (M_157 k0 3), .ref (ad k0)]) F hP (mtX7_setOf l D cA ad hI _ (M_157 (k0 + 7) (Int32.toNatClampNeg x5)) M_157 _ hw) kw_103 kw_725 kw_52 kw_102 ⟨by decide, by decide, by decide +kernel⟩ ⟨rfl, rfl, Nat.le_of_ble_eq_true rfl, Nat.le_of_ble_eq_true rfl⟩ rfl hl.1 rfl (Nat.le_of_ble_eq_true rfl) dX3_step_170 ⟨Nat.zero_le _, Nat.zero_le _⟩) hS (fun _ h => h) (fun r_170 M_170 H locs hw hP hS _ _ => ?_)
        refine lv_ior hx hb dX3_step_173 ?_
        refine pt_put F hP hD hS (pt_c3 _ hk0) (pt_l3 hk0) inX3 tyX3 tyX3_ok nmX3 rfl 3 (by decide) kw_296 rfl rfl rfl rfl (Nat.le_of_ble_eq_true rfl) (pt_c3 _ hk0) dX3_step_174 (fun M_174 H locs eM_174 hP hS => ?_)
        replace hw := hw M_174 eM_174
        obtain ⟨x5_177, ex5_177⟩ : ∃ y : Int32, y = x5 + 1 := ⟨_, rfl⟩
        replace hw := hw x5_177 ex5_177
        refine lv_iinc (v := x5_177) (lv' := [(5, .int x5_177), (0, .ref (ad k0)), (4, .int x4)]) hx hb dX3_step_177 hl (k := 2) rfl (by rw [ex5_177]; rfl) (by decide) rfl (fun ls hl => ?_)
        refine lv_goto (tgt := 75) hx hb dX3_step_180 (by decide) ?_
        exact ih75 x4 x5_177 M_174 _ _ _ hw hP hS (lv_sub hl [1, 2, 0] rfl)
      intro x4 x5 M H locs ls hw hP hS hl
      replace hw : lbX3_step_75 k0 p1 Q (lpX3_step_75 k0 p1 Q n75) x4 x5 M := hw
      unfold lbX3_step_75 at hw
      refine lv_iload hx hb dX3_step_75 (lv_at hl 2 rfl) ?_
      refine lv_aload_n hx hb dX3_step_77 rfl (lv_at hl 0 rfl) ?_
      refine pt_get F hP (pt_c3 _ hk0) (pt_l3 hk0) inX3 rfl 10 (by decide) kw_306 rfl rfl dX3_step_78 ?_
      refine lv_icmp_ge (tgt := 183) hx hb dX3_step_81 (by decide) (fun hc81 => ?_) (fun hc81 => ?_)
      · replace hw := hw.1 hc81
        refine lv_aload_n hx hb dX3_step_183 rfl (lv_at hl 0 rfl) ?_
        refine lv_iload hx hb dX3_step_184 (lv_at hl 1 rfl) ?_
        refine pt_callv (pt_runV (n := 1) (As := [.int x4]) (rest := []) F hP (pt_c3 _ hk0) (pt_l3 hk0) rfl (mtX3_enter l D cA ad hI _ k0 hk0 x4 M _ hw) kw_723 kw_816 kw_57 kw_721 kw_722 ⟨by decide, by decide, by decide +kernel⟩ ⟨rfl, rfl, Nat.le_of_ble_eq_true rfl, Nat.le_of_ble_eq_true rfl⟩ rfl hl.1 rfl (Nat.le_of_ble_eq_true rfl) dX3_step_186 ⟨Nat.zero_le _, Nat.zero_le _⟩) hS (fun _ h => h) (fun M_186 H locs hw hP hS _ _ => ?_)
        refine lv_aload_n hx hb dX3_step_189 rfl (lv_at hl 0 rfl) ?_
        refine pt_get F hP (pt_c3 _ hk0) (pt_l3 hk0) inX3 rfl 10 (by decide) kw_306 rfl rfl dX3_step_190 ?_
        exact W.iret (v := (M_186 k0 10)) hx hb hr (fun t ht hW => ⟨⟨(M_186 k0 10), M_186, rfl, hw, by unfold pt_B; rw [ht]; exact hP⟩, hS.F ht⟩) hS.2.2 dX3_step_193
      · replace hw := hw.2 hc81
        refine lv_aload_n hx hb dX3_step_84 rfl (lv_at hl 0 rfl) ?_
        refine pt_get F hP (pt_c3 _ hk0) (pt_l3 hk0) inX3 rfl 0 (by decide) kw_289 rfl rfl dX3_step_85 ?_
        refine pt_get F hP (pt_c1 _ pt_k1) (pt_l1 pt_k1) inX1 rfl 1 (by decide) kw_227 rfl rfl dX3_step_88 ?_
        refine lv_aload_n hx hb dX3_step_91 rfl (lv_at hl 0 rfl) ?_
        refine pt_get F hP (pt_c3 _ hk0) (pt_l3 hk0) inX3 rfl 9 (by decide) kw_305 rfl rfl dX3_step_92 ?_
        refine lv_iload hx hb dX3_step_95 (lv_at hl 2 rfl) ?_
        have hv97 := hw.1
        replace hw := hw.2
        refine pt_iald F hP (pt_3t hk0) hv97 dX3_step_97 ?_
        have hv98 := hw.1
        replace hw := hw.2
        refine pt_aldt F hP hv98 dX3_step_98 ?_
        refine lv_astore (lv' := [(6, .ref (ad (pt_t (M (k0 + 7) (Int32.toNatClampNeg x5))))), (0, .ref (ad k0)), (4, .int x4), (5, .int x5)]) hx hb dX3_step_99 hl (by decide) rfl (fun ls hl => ?_)
        refine lv_aload_n hx hb dX3_step_101 rfl (lv_at hl 1 rfl) ?_
        refine lv_aload hx hb dX3_step_102 (lv_at hl 0 rfl) ?_
        refine pt_get F hP (pt_c6 _ (pt_kt hv98)) (pt_l6 (pt_kt hv98)) inX6 rfl 0 (by decide) kw_184 rfl rfl dX3_step_104 ?_
        refine pt_callv (pt_runV (n := 1) (As := [.ref (ad ((pt_t (M (k0 + 7) (Int32.toNatClampNeg x5))) + 1))]) (rest := []) F hP (pt_c3 _ hk0) (pt_l3 hk0) rfl (mtX3_act l D cA ad hI _ k0 hk0 ((pt_t (M (k0 + 7) (Int32.toNatClampNeg x5))) + 1) (pt_6a (pt_kt hv98)) M _ hw) kw_729 kw_726 kw_57 kw_728 kw_6 ⟨by decide, by decide, by decide +kernel⟩ ⟨rfl, rfl, Nat.le_of_ble_eq_true rfl, Nat.le_of_ble_eq_true rfl⟩ rfl hl.1 rfl (Nat.le_of_ble_eq_true rfl) dX3_step_107 ⟨Nat.zero_le _, Nat.zero_le _⟩) hS (fun _ h => h) (fun M_107 H locs hw hP hS _ _ => ?_)
        refine lv_aload hx hb dX3_step_110 (lv_at hl 0 rfl) ?_
        refine pt_get F hP (pt_c6 _ (pt_kt hv98)) (pt_l6 (pt_kt hv98)) inX6 rfl 4 (by decide) kw_193 rfl rfl dX3_step_112 ?_
        refine lv_iconst (v := (-1)) hx hb dX3_step_115 (by decide) ?_
        refine lv_icmp_eq (tgt := 142) hx hb dX3_step_116 (by decide) (fun hc116 => ?_) (fun hc116 => ?_)
        · replace hw := hw.1 hc116
          exact J142 x4 x5 M_107 _ _ _ hw hP hS (lv_sub hl [1, 2, 3] rfl)
        · replace hw := hw.2 hc116
          refine lv_iload hx hb dX3_step_119 (lv_at hl 2 rfl) ?_
          refine lv_aload_n hx hb dX3_step_121 rfl (lv_at hl 1 rfl) ?_
          refine pt_get F hP (pt_c3 _ hk0) (pt_l3 hk0) inX3 rfl 0 (by decide) kw_289 rfl rfl dX3_step_122 ?_
          refine lv_aload_n hx hb dX3_step_125 rfl (lv_at hl 1 rfl) ?_
          refine lv_aload hx hb dX3_step_126 (lv_at hl 0 rfl) ?_
          refine pt_calli (pt_runV (n := 1) (As := [.ref (ad (pt_t (M (k0 + 7) (Int32.toNatClampNeg x5))))]) (rest := [.ref (ad 1), .int x4]) F hP (pt_c3 _ hk0) (pt_l3 hk0) rfl (mtX3_targetsOf l D cA ad hI _ k0 hk0 (pt_t (M (k0 + 7) (Int32.toNatClampNeg x5))) (pt_kt hv98) M_107 _ hw) kw_806 kw_803 kw_57 kw_805 kw_18 ⟨by decide, by decide, by decide +kernel⟩ ⟨rfl, rfl, Nat.le_of_ble_eq_true rfl, Nat.le_of_ble_eq_true rfl⟩ rfl hl.1 rfl (Nat.le_of_ble_eq_true rfl) dX3_step_128 ⟨Nat.zero_le _, Nat.zero_le _⟩) hS (fun _ h => h) (fun r_128 M_128 H locs hw hP hS _ _ => ?_)
          refine lv_aload hx hb dX3_step_131 (lv_at hl 0 rfl) ?_
          refine pt_get F hP (pt_c6 _ (pt_kt hv98)) (pt_l6 (pt_kt hv98)) inX6 rfl 5 (by decide) kw_196 rfl rfl dX3_step_133 ?_
          refine pt_calli (pt_runV (n := 2) (As := [.int r_128, .int (M_128 (pt_t (M (k0 + 7) (Int32.toNatClampNeg x5))) 5)]) (rest := [.int x4]) F hP (pt_c1 _ pt_k1) (pt_l1 pt_k1) rfl (mtX1_enteredInto l D cA ad hI _ r_128 (M_128 (pt_t (M (k0 + 7) (Int32.toNatClampNeg x5))) 5) M_128 _ hw) kw_810 kw_807 kw_53 kw_808 kw_809 ⟨by decide, by decide, by decide +kernel⟩ ⟨rfl, rfl, Nat.le_of_ble_eq_true rfl, Nat.le_of_ble_eq_true rfl⟩ rfl hl.1 rfl (Nat.le_of_ble_eq_true rfl) dX3_step_136 ⟨Nat.zero_le _, Nat.zero_le _⟩) hS (fun _ h => h) (fun r_136 M_136 H locs hw hP hS _ _ => ?_)
          refine lv_ior hx hb dX3_step_139 ?_
          refine lv_topi (fun x4_140 ex4_140 => ?_)
          replace hw := hw x4_140 ex4_140
          refine lv_istore (lv' := [(4, .int x4_140), (6, .ref (ad (pt_t (M (k0 + 7) (Int32.toNatClampNeg x5))))), (0, .ref (ad k0)), (5, .int x5)]) hx hb dX3_step_140 hl (by decide) rfl (fun ls hl => ?_)
          exact J142 x4_140 x5 M_136 _ _ _ hw hP hS (lv_sub hl [2, 0, 3] rfl)
  have L22 : ∀ (n22 : Nat) (x3 : Int32) (x4 : Int32) (M : pt_M) (H : Heap) (locs : List Loc) (ls : Array Slot), lpX3_step_22 k0 p1 Q n22 x3 x4 M → va_P D pt_cl (pt_W cA ad M) H → va_S (pt_fr ad s.heap.size) s.heap H locs → lv_has ls 7 [(0, .ref (ad k0)), (3, .int x3), (4, .int x4)] → W p l e (headSpec (Cond.code yX3_step cX3_step 7 (some .int) :: lw_all) ({ frames := 4, cells := 0, slots := 0, locals := 89 } : Room)).room s m ([.ref (ad k0), .int p1] : List Value).toArray below meth c H locs 0 0 (MQ below (va_Qi Q (pt_B D cA ad) (pt_fr ad s.heap.size)) ([.ref (ad k0), .int p1] : List Value).toArray s 0 0 (pt_fr ad s.heap.size)) (F0 m 22 ls []) := by
    intro n22
    induction n22 with
    | zero => intro x3 x4 M H locs ls hw; exact hw.elim
    | succ n22 ih22 =>
      intro x3 x4 M H locs ls hw hP hS hl
      replace hw : lbX3_step_22 k0 p1 Q (lpX3_step_22 k0 p1 Q n22) x3 x4 M := hw
      unfold lbX3_step_22 at hw
      refine lv_iload hx hb dX3_step_22 (lv_at hl 2 rfl) ?_
      refine lv_aload_n hx hb dX3_step_24 rfl (lv_at hl 0 rfl) ?_
      refine pt_get F hP (pt_c3 _ hk0) (pt_l3 hk0) inX3 rfl 10 (by decide) kw_306 rfl rfl dX3_step_25 ?_
      refine lv_icmp_ge (tgt := 59) hx hb dX3_step_28 (by decide) (fun hc28 => ?_) (fun hc28 => ?_)
      · replace hw := hw.1 hc28
        refine lv_aload_n hx hb dX3_step_59 rfl (lv_at hl 0 rfl) ?_
        refine lv_iload_n hx hb dX3_step_60 rfl (lv_at hl 1 rfl) ?_
        refine pt_callv (pt_runV (n := 1) (As := [.int x3]) (rest := []) F hP (pt_c3 _ hk0) (pt_l3 hk0) rfl (mtX3_makeRecords l D cA ad hI _ k0 hk0 x3 M _ hw) kw_797 kw_794 kw_57 kw_796 kw_16 ⟨by decide, by decide, by decide +kernel⟩ ⟨rfl, rfl, Nat.le_of_ble_eq_true rfl, Nat.le_of_ble_eq_true rfl⟩ rfl hl.1 rfl (Nat.le_of_ble_eq_true rfl) dX3_step_61 ⟨Nat.zero_le _, Nat.zero_le _⟩) hS (fun _ h => h) (fun M_61 H locs hw hP hS _ _ => ?_)
        refine lv_aload_n hx hb dX3_step_64 rfl (lv_at hl 0 rfl) ?_
        refine lv_iload_n hx hb dX3_step_65 rfl (lv_at hl 1 rfl) ?_
        refine pt_callv (pt_runV (n := 1) (As := [.int x3]) (rest := []) F hP (pt_c3 _ hk0) (pt_l3 hk0) rfl (mtX3_leave l D cA ad hI _ k0 hk0 x3 M_61 _ hw) kw_802 kw_799 kw_57 kw_801 kw_17 ⟨by decide, by decide, by decide +kernel⟩ ⟨rfl, rfl, Nat.le_of_ble_eq_true rfl, Nat.le_of_ble_eq_true rfl⟩ rfl hl.1 rfl (Nat.le_of_ble_eq_true rfl) dX3_step_66 ⟨Nat.zero_le _, Nat.zero_le _⟩) hS (fun _ h => h) (fun M_66 H locs hw hP hS _ _ => ?_)
        refine lv_iconst (v := 0) hx hb dX3_step_69 (by decide) ?_
        refine lv_istore (lv' := [(4, .int 0), (0, .ref (ad k0)), (3, .int x3)]) hx hb dX3_step_70 hl (by decide) rfl (fun ls hl => ?_)
        refine lv_iconst (v := 0) hx hb dX3_step_72 (by decide) ?_
        refine lv_istore (lv' := [(5, .int 0), (4, .int 0), (0, .ref (ad k0)), (3, .int x3)]) hx hb dX3_step_73 hl (by decide) rfl (fun ls hl => ?_)
        obtain ⟨n_, hw⟩ := hw
        exact L75 n_ 0 0 M_66 _ _ _ hw hP hS (lv_sub hl [2, 1, 0] rfl)
      · replace hw := hw.2 hc28
        refine lv_iload_n hx hb dX3_step_31 rfl (lv_at hl 1 rfl) ?_
        refine lv_aload_n hx hb dX3_step_32 rfl (lv_at hl 0 rfl) ?_
        refine lv_aload_n hx hb dX3_step_33 rfl (lv_at hl 0 rfl) ?_
        refine pt_get F hP (pt_c3 _ hk0) (pt_l3 hk0) inX3 rfl 0 (by decide) kw_289 rfl rfl dX3_step_34 ?_
        refine pt_get F hP (pt_c1 _ pt_k1) (pt_l1 pt_k1) inX1 rfl 1 (by decide) kw_227 rfl rfl dX3_step_37 ?_
        refine lv_aload_n hx hb dX3_step_40 rfl (lv_at hl 0 rfl) ?_
        refine pt_get F hP (pt_c3 _ hk0) (pt_l3 hk0) inX3 rfl 9 (by decide) kw_305 rfl rfl dX3_step_41 ?_
        refine lv_iload hx hb dX3_step_44 (lv_at hl 2 rfl) ?_
        have hv46 := hw.1
        replace hw := hw.2
        refine pt_iald F hP (pt_3t hk0) hv46 dX3_step_46 ?_
        have hv47 := hw.1
        replace hw := hw.2
        refine pt_aldt F hP hv47 dX3_step_47 ?_
        refine pt_calli (pt_runV (n := 1) (As := [.ref (ad (pt_t (M (k0 + 7) (Int32.toNatClampNeg x4))))]) (rest := [.int x3]) F hP (pt_c3 _ hk0) (pt_l3 hk0) rfl (mtX3_leftBy l D cA ad hI _ k0 hk0 (pt_t (M (k0 + 7) (Int32.toNatClampNeg x4))) (pt_kt hv47) M _ hw) kw_793 kw_790 kw_57 kw_792 kw_15 ⟨by decide, by decide, by decide +kernel⟩ ⟨rfl, rfl, Nat.le_of_ble_eq_true rfl, Nat.le_of_ble_eq_true rfl⟩ rfl hl.1 rfl (Nat.le_of_ble_eq_true rfl) dX3_step_48 ⟨Nat.zero_le _, Nat.zero_le _⟩) hS (fun _ h => h) (fun r_48 M_48 H locs hw hP hS _ _ => ?_)
        refine lv_ior hx hb dX3_step_51 ?_
        refine lv_topi (fun x3_52 ex3_52 => ?_)
        replace hw := hw x3_52 ex3_52
        refine lv_istore_n (lv' := [(3, .int x3_52), (0, .ref (ad k0)), (4, .int x4)]) hx hb dX3_step_52 rfl hl (by decide) rfl (fun ls hl => ?_)
        obtain ⟨x4_53, ex4_53⟩ : ∃ y : Int32, y = x4 + 1 := ⟨_, rfl⟩
        replace hw := hw x4_53 ex4_53
        refine lv_iinc (v := x4_53) (lv' := [(4, .int x4_53), (3, .int x3_52), (0, .ref (ad k0))]) hx hb dX3_step_53 hl (k := 2) rfl (by rw [ex4_53]; rfl) (by decide) rfl (fun ls hl => ?_)
        refine lv_goto (tgt := 22) hx hb dX3_step_56 (by decide) ?_
        exact ih22 x3_52 x4_53 M_48 _ _ _ hw hP hS (lv_sub hl [2, 1, 0] rfl)
  unfold wpX3_step at hw
  refine lv_aload_n hx hb dX3_step_0 rfl (lv_at hl 0 rfl) ?_
  refine lv_iload_n hx hb dX3_step_1 rfl (lv_at hl 1 rfl) ?_
  refine pt_calli (pt_runV (n := 1) (As := [.int p1]) (rest := []) F hP (pt_c3 _ hk0) (pt_l3 hk0) rfl (mtX3_openBy l D cA ad hI _ k0 hk0 p1 M _ hw) kw_764 kw_761 kw_57 kw_762 kw_763 ⟨by decide, by decide, by decide +kernel⟩ ⟨rfl, rfl, Nat.le_of_ble_eq_true rfl, Nat.le_of_ble_eq_true rfl⟩ rfl hl.1 rfl (Nat.le_of_ble_eq_true rfl) dX3_step_2 ⟨Nat.zero_le _, Nat.zero_le _⟩) hS (fun _ h => h) (fun r_2 M_2 H locs hw hP hS _ _ => ?_)
  refine lv_istore_n (lv' := [(2, .int r_2), (0, .ref (ad k0)), (1, .int p1)]) hx hb dX3_step_5 rfl hl (by decide) rfl (fun ls hl => ?_)
  refine lv_iload_n hx hb dX3_step_6 rfl (lv_at hl 0 rfl) ?_
  refine lv_if_ne (tgt := 12) hx hb dX3_step_7 (by decide) (fun hc7 => ?_) (fun hc7 => ?_)
  · replace hw := hw.1 hc7
    refine lv_aload_n hx hb dX3_step_12 rfl (lv_at hl 1 rfl) ?_
    refine lv_iload_n hx hb dX3_step_13 rfl (lv_at hl 0 rfl) ?_
    refine pt_callv (pt_runV (n := 1) (As := [.int r_2]) (rest := []) F hP (pt_c3 _ hk0) (pt_l3 hk0) rfl (mtX3_choose l D cA ad hI _ k0 hk0 r_2 M_2 _ hw) kw_777 kw_774 kw_57 kw_776 kw_12 ⟨by decide, by decide, by decide +kernel⟩ ⟨rfl, rfl, Nat.le_of_ble_eq_true rfl, Nat.le_of_ble_eq_true rfl⟩ rfl hl.1 rfl (Nat.le_of_ble_eq_true rfl) dX3_step_14 ⟨Nat.zero_le _, Nat.zero_le _⟩) hS (fun _ h => h) (fun M_14 H locs hw hP hS _ _ => ?_)
    refine lv_iconst (v := 0) hx hb dX3_step_17 (by decide) ?_
    refine lv_istore_n (lv' := [(3, .int 0), (2, .int r_2), (0, .ref (ad k0)), (1, .int p1)]) hx hb dX3_step_18 rfl hl (by decide) rfl (fun ls hl => ?_)
    refine lv_iconst (v := 0) hx hb dX3_step_19 (by decide) ?_
    refine lv_istore (lv' := [(4, .int 0), (3, .int 0), (2, .int r_2), (0, .ref (ad k0)), (1, .int p1)]) hx hb dX3_step_20 hl (by decide) rfl (fun ls hl => ?_)
    obtain ⟨n_, hw⟩ := hw
    exact L22 n_ 0 0 M_14 _ _ _ hw hP hS (lv_sub hl [3, 1, 0] rfl)
  · replace hw := hw.2 hc7
    refine lv_iconst (v := 0) hx hb dX3_step_10 (by decide) ?_
    exact W.iret (v := 0) hx hb hr (fun t ht hW => ⟨⟨0, M_2, rfl, hw, by unfold pt_B; rw [ht]; exact hP⟩, hS.F ht⟩) hS.2.2 dX3_step_11
-- ===== X3_proceed
def wjX3_proceed_143 (k0 : Nat) (p1 : Int32) (Q : Int32 → pt_M → Prop) (R38 : Int32 → Int32 → Int32 → Int32 → pt_M → Prop) (x2 : Int32) (x3 : Int32) (x4 : Int32) (x5 : Int32) (M : pt_M) : Prop :=
  ∀ x5_143 : Int32, x5_143 = x5 + 1 → R38 x2 x3 x4 x5_143 M
def wjX3_proceed_120 (k0 : Nat) (p1 : Int32) (Q : Int32 → pt_M → Prop) (R38 : Int32 → Int32 → Int32 → Int32 → pt_M → Prop) (x3 : Int32) (x4 : Int32) (x5 : Int32) (M : pt_M) : Prop :=
  wjX3_proceed_143 k0 p1 Q R38 11 x3 x4 x5 M
def wjX3_proceed_70 (k0 : Nat) (p1 : Int32) (Q : Int32 → pt_M → Prop) (R38 : Int32 → Int32 → Int32 → Int32 → pt_M → Prop) (x2 : Int32) (x3 : Int32) (x5 : Int32) (x6 : Int32) (xs0 : Int32) (xs1 : Int32) (M : pt_M) : Prop :=
  ∀ x4_71 : Int32, x4_71 = (xs0 + xs1) → wpX3_isAtEnd k0 M (fun (r_74 : Int32) (M_74 : pt_M) => (r_74 = 0 → (¬ x4_71 = 12 → (0 < x6 → wjX3_proceed_120 k0 p1 Q R38 x3 x4_71 x5 M_74) ∧ (¬ 0 < x6 → (x2 = 11 → ((M_74 k0 8) ≤ 0 → Q x3 M_74) ∧ (¬ (M_74 k0 8) ≤ 0 → wpX3_nextEvent k0 M_74 (fun (r_134 : Int32) (M_134 : pt_M) => wjX3_proceed_143 k0 p1 Q R38 r_134 x3 x4_71 x5 M_134))) ∧ (¬ x2 = 11 → wjX3_proceed_120 k0 p1 Q R38 x3 x4_71 x5 M_74))) ∧ (x4_71 = 12 → wpX3_loseQueue k0 M_74 (fun (M_94 : pt_M) => ∀ M_104 : pt_M, M_104 = pt_st M_94 k0 6 ((M_94 k0 6) + 1) → Q x3 M_104))) ∧ (¬ r_74 = 0 → wpX3_loseQueue k0 M_74 (fun (M_81 : pt_M) => Q x3 M_81)))
def lbX3_proceed_38 (k0 : Nat) (p1 : Int32) (Q : Int32 → pt_M → Prop)  (R38 : Int32 → Int32 → Int32 → Int32 → pt_M → Prop) (x2 : Int32) (x3 : Int32) (x4 : Int32) (x5 : Int32) (M : pt_M) : Prop :=
  (1000 ≤ x5 → Q x3 M) ∧ (¬ 1000 ≤ x5 → wpX3_step k0 x2 M (fun (r_48 : Int32) (M_48 : pt_M) => ∀ x3_57 : Int32, x3_57 = (x3 + r_48) → (r_48 ≤ 0 → wjX3_proceed_70 k0 p1 Q R38 x2 x3_57 x5 r_48 x4 0 M_48) ∧ (¬ r_48 ≤ 0 → wjX3_proceed_70 k0 p1 Q R38 x2 x3_57 x5 r_48 x4 1 M_48)))
def lpX3_proceed_38 (k0 : Nat) (p1 : Int32) (Q : Int32 → pt_M → Prop)  : Nat → Int32 → Int32 → Int32 → Int32 → pt_M → Prop
  | 0 => fun _ _ _ _ _ => False
  | n + 1 => fun x2 x3 x4 x5 M => lbX3_proceed_38 k0 p1 Q (lpX3_proceed_38 k0 p1 Q n) x2 x3 x4 x5 M
def wjX3_proceed_28 (k0 : Nat) (p1 : Int32) (Q : Int32 → pt_M → Prop)   (M : pt_M) : Prop :=
  ∃ n : Nat, lpX3_proceed_38 k0 p1 Q n p1 0 0 0 M
def wpX3_proceed (k0 : Nat) (p1 : Int32) (M : pt_M) (Q : Int32 → pt_M → Prop) : Prop :=
  ∀ M_2 : pt_M, M_2 = pt_st M k0 3 0 → wpX3_isAtEnd k0 M_2 (fun (r_6 : Int32) (M_6 : pt_M) => (r_6 = 0 → (¬ p1 = 10 → wjX3_proceed_28 k0 p1 Q M_6) ∧ (p1 = 10 → wpX3_growOlder k0 M_6 (fun (M_25 : pt_M) => wjX3_proceed_28 k0 p1 Q M_25))) ∧ (¬ r_6 = 0 → wpX3_loseQueue k0 M_6 (fun (M_13 : pt_M) => Q 0 M_13)))
set_option maxHeartbeats 4000000 in
set_option maxRecDepth 100000 in
theorem mtX3_proceed (l : Launch) (D : va_G) (cA : Nat → ClassId) (ad : Nat → Nat) (hI : pt_I ad) (sz : Nat) (k0 : Nat) (hk0 : pt_kd k0 = 3) (p1 : Int32) (M : pt_M) (Q : Int32 → pt_M → Prop) (hw : wpX3_proceed k0 p1 M Q) : Met l yX3_proceed (Cond.code yX3_proceed cX3_proceed 7 (some .int) :: lw_all) ({ frames := 5, cells := 0, slots := 0, locals := 115 } : Room) (va_Pc [.ref (ad k0), .int p1] (pt_P D cA ad sz M)) (va_Qi Q (pt_B D cA ad) (pt_fr ad sz)) 0 0 (pt_fr ad sz) := by
  refine Met.ofW (cc := cX3_proceed) (maxL := 7) (ret := (some .int)) (by decide) rfl ?_
  intro p e s m args below meth c s₁ B hml hv
  obtain ⟨rfl, hsz, hP, hK⟩ := hv
  have hx := B.exec
  have hb := B.bytes
  have hr := B.returns
  have hts0 := atoms_spec (ws := (Cond.code yX3_proceed cX3_proceed 7 (some .int) :: lw_all)) B.pre
  have hown : s.vm.findClass RX3 = some m.cls := findClass_of_methodNamed B.named
  have hlocks := B.notSynchronized
  subst hsz
  have F : pt_F p m c cX3_proceed 7 s _ RX3 D cA := ⟨⟨hx, hb, hml, hown, fun w h => hts0 w (List.mem_cons_of_mem _ h)⟩, hK⟩
  have hD : ∀ M, va_D (pt_fr ad s.heap.size) (pt_W cA ad M) := pt_D hI (fun k h => Or.inl ⟨k, h, rfl⟩)
  have hS : va_S (pt_fr ad s.heap.size) s.heap s.heap [] := va_S.rf
  have hl := lv_entry ([.ref (ad k0), .int p1]) (n := 7) (Nat.le_of_ble_eq_true rfl)
  rw [lg_entry_eq]
  generalize (lg_sl ([.ref (ad k0), .int p1]) ++ List.replicate (7 - (lg_sl ([.ref (ad k0), .int p1])).length) Slot.unset).toArray = ls at hl ⊢
  have hl : lv_has ls 7 [(0, .ref (ad k0)), (1, .int p1)] := hl
  have L38 : ∀ (n38 : Nat) (x2 : Int32) (x3 : Int32) (x4 : Int32) (x5 : Int32) (M : pt_M) (H : Heap) (locs : List Loc) (ls : Array Slot), lpX3_proceed_38 k0 p1 Q n38 x2 x3 x4 x5 M → va_P D pt_cl (pt_W cA ad M) H → va_S (pt_fr ad s.heap.size) s.heap H locs → lv_has ls 7 [(0, .ref (ad k0)), (2, .int x2), (3, .int x3), (4, .int x4), (5, .int x5)] → W p l e (headSpec (Cond.code yX3_proceed cX3_proceed 7 (some .int) :: lw_all) ({ frames := 5, cells := 0, slots := 0, locals := 115 } : Room)).room s m ([.ref (ad k0), .int p1] : List Value).toArray below meth c H locs 0 0 (MQ below (va_Qi Q (pt_B D cA ad) (pt_fr ad s.heap.size)) ([.ref (ad k0), .int p1] : List Value).toArray s 0 0 (pt_fr ad s.heap.size)) (F0 m 38 ls []) := by
    intro n38
    induction n38 with
    | zero => intro x2 x3 x4 x5 M H locs ls hw; exact hw.elim
    | succ n38 ih38 =>
      have J143 : ∀ (x2 : Int32) (x3 : Int32) (x4 : Int32) (x5 : Int32) (M : pt_M) (H : Heap) (locs : List Loc) (ls : Array Slot), wjX3_proceed_143 k0 p1 Q (lpX3_proceed_38 k0 p1 Q n38) x2 x3 x4 x5 M → va_P D pt_cl (pt_W cA ad M) H → va_S (pt_fr ad s.heap.size) s.heap H locs → lv_has ls 7 [(0, .ref (ad k0)), (2, .int x2), (3, .int x3), (4, .int x4), (5, .int x5)] → W p l e (headSpec (Cond.code yX3_proceed cX3_proceed 7 (some .int) :: lw_all) ({ frames := 5, cells := 0, slots := 0, locals := 115 } : Room)).room s m ([.ref (ad k0), .int p1] : List Value).toArray below meth c H locs 0 0 (MQ below (va_Qi Q (pt_B D cA ad) (pt_fr ad s.heap.size)) ([.ref (ad k0), .int p1] : List Value).toArray s 0 0 (pt_fr ad s.heap.size)) (F0 m 143 ls []) := by
        intro x2 x3 x4 x5 M H locs ls hw hP hS hl
        unfold wjX3_proceed_143 at hw
        obtain ⟨x5_143, ex5_143⟩ : ∃ y : Int32, y = x5 + 1 := ⟨_, rfl⟩
        replace hw := hw x5_143 ex5_143
        refine lv_iinc (v := x5_143) (lv' := [(5, .int x5_143), (0, .ref (ad k0)), (2, .int x2), (3, .int x3), (4, .int x4)]) hx hb dX3_proceed_143 hl (k := 4) rfl (by rw [ex5_143]; rfl) (by decide) rfl (fun ls hl => ?_)
        refine lv_goto (tgt := 38) hx hb dX3_proceed_146 (by decide) ?_
        exact ih38 x2 x3 x4 x5_143 M _ _ _ hw hP hS (lv_sub hl [1, 2, 3, 4, 0] rfl)
      have J120 : ∀ (x3 : Int32) (x4 : Int32) (x5 : Int32) (M : pt_M) (H : Heap) (locs : List Loc) (ls : Array Slot), wjX3_proceed_120 k0 p1 Q (lpX3_proceed_38 k0 p1 Q n38) x3 x4 x5 M → va_P D pt_cl (pt_W cA ad M) H → va_S (pt_fr ad s.heap.size) s.heap H locs → lv_has ls 7 [(0, .ref (ad k0)), (3, .int x3), (4, .int x4), (5, .int x5)] → W p l e (headSpec (Cond.code yX3_proceed cX3_proceed 7 (some .int) :: lw_all) ({ frames := 5, cells := 0, slots := 0, locals := 115 } : Room)).room s m ([.ref (ad k0), .int p1] : List Value).toArray below meth c H locs 0 0 (MQ below (va_Qi Q (pt_B D cA ad) (pt_fr ad s.heap.size)) ([.ref (ad k0), .int p1] : List Value).toArray s 0 0 (pt_fr ad s.heap.size)) (F0 m 120 ls []) := by
        intro x3 x4 x5 M H locs ls hw hP hS hl
        unfold wjX3_proceed_120 at hw
        refine lv_bipush (v := 11) hx hb dX3_proceed_120 (by decide) ?_
        refine lv_istore_n (lv' := [(2, .int 11), (0, .ref (ad k0)), (3, .int x3), (4, .int x4), (5, .int x5)]) hx hb dX3_proceed_122 rfl hl (by decide) rfl (fun ls hl => ?_)
        refine lv_goto (tgt := 143) hx hb dX3_proceed_123 (by decide) ?_
        exact J143 11 x3 x4 x5 M _ _ _ hw hP hS (lv_sub hl [1, 0, 2, 3, 4] rfl)
      have J70 : ∀ (x2 : Int32) (x3 : Int32) (x5 : Int32) (x6 : Int32) (xs0 : Int32) (xs1 : Int32) (M : pt_M) (H : Heap) (locs : List Loc) (ls : Array Slot), wjX3_proceed_70 k0 p1 Q (lpX3_proceed_38 k0 p1 Q n38) x2 x3 x5 x6 xs0 xs1 M → va_P D pt_cl (pt_W cA ad M) H → va_S (pt_fr ad s.heap.size) s.heap H locs → lv_has ls 7 [(0, .ref (ad k0)), (2, .int x2), (3, .int x3), (5, .int x5), (6, .int x6)] → W p l e (headSpec (Cond.code yX3_proceed cX3_proceed 7 (some .int) :: lw_all) ({ frames := 5, cells := 0, slots := 0, locals := 115 } : Room)).room s m ([.ref (ad k0), .int p1] : List Value).toArray below meth c H locs 0 0 (MQ below (va_Qi Q (pt_B D cA ad) (pt_fr ad s.heap.size)) ([.ref (ad k0), .int p1] : List Value).toArray s 0 0 (pt_fr ad s.heap.size)) (F0 m 70 ls [.int xs1, .int xs0]) := by
        intro x2 x3 x5 x6 xs0 xs1 M H locs ls hw hP hS hl
        unfold wjX3_proceed_70 at hw
        refine lv_iadd hx hb dX3_proceed_70 ?_
        refine lv_topi (fun x4_71 ex4_71 => ?_)
        replace hw := hw x4_71 ex4_71
        refine lv_istore (lv' := [(4, .int x4_71), (0, .ref (ad k0)), (2, .int x2), (3, .int x3), (5, .int x5), (6, .int x6)]) hx hb dX3_proceed_71 hl (by decide) rfl (fun ls hl => ?_)
        refine lv_aload_n hx hb dX3_proceed_73 rfl (lv_at hl 1 rfl) ?_
        refine pt_calli (pt_runV (n := 0) (As := []) (rest := []) F hP (pt_c3 _ hk0) (pt_l3 hk0) rfl (mtX3_isAtEnd l D cA ad hI _ k0 hk0 M _ hw) kw_409 kw_748 kw_57 kw_407 kw_408 ⟨by decide, by decide, by decide +kernel⟩ ⟨rfl, rfl, Nat.le_of_ble_eq_true rfl, Nat.le_of_ble_eq_true rfl⟩ rfl hl.1 rfl (Nat.le_of_ble_eq_true rfl) dX3_proceed_74 ⟨Nat.zero_le _, Nat.zero_le _⟩) hS (fun _ h => h) (fun r_74 M_74 H locs hw hP hS _ _ => ?_)
        refine lv_if_eq (tgt := 86) hx hb dX3_proceed_77 (by decide) (fun hc77 => ?_) (fun hc77 => ?_)
        · replace hw := hw.1 hc77
          refine lv_iload hx hb dX3_proceed_86 (lv_at hl 0 rfl) ?_
          refine lv_bipush (v := 12) hx hb dX3_proceed_88 (by decide) ?_
          refine lv_icmp_ne (tgt := 109) hx hb dX3_proceed_90 (by decide) (fun hc90 => ?_) (fun hc90 => ?_)
          · replace hw := hw.1 hc90
            refine lv_iload hx hb dX3_proceed_109 (lv_at hl 5 rfl) ?_
            refine lv_if_gt (tgt := 120) hx hb dX3_proceed_111 (by decide) (fun hc111 => ?_) (fun hc111 => ?_)
            · replace hw := hw.1 hc111
              exact J120 x3 x4_71 x5 M_74 _ _ _ hw hP hS (lv_sub hl [1, 3, 0, 4] rfl)
            · replace hw := hw.2 hc111
              refine lv_iload_n hx hb dX3_proceed_114 rfl (lv_at hl 2 rfl) ?_
              refine lv_bipush (v := 11) hx hb dX3_proceed_115 (by decide) ?_
              refine lv_icmp_eq (tgt := 126) hx hb dX3_proceed_117 (by decide) (fun hc117 => ?_) (fun hc117 => ?_)
              · replace hw := hw.1 hc117
                refine lv_aload_n hx hb dX3_proceed_126 rfl (lv_at hl 1 rfl) ?_
                refine pt_get F hP (pt_c3 _ hk0) (pt_l3 hk0) inX3 rfl 8 (by decide) kw_304 rfl rfl dX3_proceed_127 ?_
                refine lv_if_le (tgt := 141) hx hb dX3_proceed_130 (by decide) (fun hc130 => ?_) (fun hc130 => ?_)
                · replace hw := hw.1 hc130
                  refine lv_iload_n hx hb dX3_proceed_141 rfl (lv_at hl 3 rfl) ?_
                  exact W.iret (v := x3) hx hb hr (fun t ht hW => ⟨⟨x3, M_74, rfl, hw, by unfold pt_B; rw [ht]; exact hP⟩, hS.F ht⟩) hS.2.2 dX3_proceed_142
                · replace hw := hw.2 hc130
                  refine lv_aload_n hx hb dX3_proceed_133 rfl (lv_at hl 1 rfl) ?_
                  refine pt_calli (pt_runV (n := 0) (As := []) (rest := []) F hP (pt_c3 _ hk0) (pt_l3 hk0) rfl (mtX3_nextEvent l D cA ad hI _ k0 hk0 M_74 _ hw) kw_820 kw_817 kw_57 kw_819 kw_20 ⟨by decide, by decide, by decide +kernel⟩ ⟨rfl, rfl, Nat.le_of_ble_eq_true rfl, Nat.le_of_ble_eq_true rfl⟩ rfl hl.1 rfl (Nat.le_of_ble_eq_true rfl) dX3_proceed_134 ⟨Nat.zero_le _, Nat.zero_le _⟩) hS (fun _ h => h) (fun r_134 M_134 H locs hw hP hS _ _ => ?_)
                  refine lv_istore_n (lv' := [(2, .int r_134), (4, .int x4_71), (0, .ref (ad k0)), (3, .int x3), (5, .int x5), (6, .int x6)]) hx hb dX3_proceed_137 rfl hl (by decide) rfl (fun ls hl => ?_)
                  refine lv_goto (tgt := 143) hx hb dX3_proceed_138 (by decide) ?_
                  exact J143 r_134 x3 x4_71 x5 M_134 _ _ _ hw hP hS (lv_sub hl [2, 0, 3, 1, 4] rfl)
              · replace hw := hw.2 hc117
                exact J120 x3 x4_71 x5 M_74 _ _ _ hw hP hS (lv_sub hl [1, 3, 0, 4] rfl)
          · replace hw := hw.2 hc90
            refine lv_aload_n hx hb dX3_proceed_93 rfl (lv_at hl 1 rfl) ?_
            refine pt_callv (pt_runV (n := 0) (As := []) (rest := []) F hP (pt_c3 _ hk0) (pt_l3 hk0) rfl (mtX3_loseQueue l D cA ad hI _ k0 hk0 M_74 _ hw) kw_752 kw_749 kw_57 kw_751 kw_8 ⟨by decide, by decide, by decide +kernel⟩ ⟨rfl, rfl, Nat.le_of_ble_eq_true rfl, Nat.le_of_ble_eq_true rfl⟩ rfl hl.1 rfl (Nat.le_of_ble_eq_true rfl) dX3_proceed_94 ⟨Nat.zero_le _, Nat.zero_le _⟩) hS (fun _ h => h) (fun M_94 H locs hw hP hS _ _ => ?_)
            refine lv_aload_n hx hb dX3_proceed_97 rfl (lv_at hl 1 rfl) ?_
            refine lv_dup hx hb dX3_proceed_98 rfl ?_
            refine pt_get F hP (pt_c3 _ hk0) (pt_l3 hk0) inX3 rfl 6 (by decide) kw_301 rfl rfl dX3_proceed_99 ?_
            refine lv_iconst (v := 1) hx hb dX3_proceed_102 (by decide) ?_
            refine lv_iadd hx hb dX3_proceed_103 ?_
            refine pt_put F hP hD hS (pt_c3 _ hk0) (pt_l3 hk0) inX3 tyX3 tyX3_ok nmX3 rfl 6 (by decide) kw_301 rfl rfl rfl rfl (Nat.le_of_ble_eq_true rfl) (pt_c3 _ hk0) dX3_proceed_104 (fun M_104 H locs eM_104 hP hS => ?_)
            replace hw := hw M_104 eM_104
            refine lv_iload_n hx hb dX3_proceed_107 rfl (lv_at hl 3 rfl) ?_
            exact W.iret (v := x3) hx hb hr (fun t ht hW => ⟨⟨x3, M_104, rfl, hw, by unfold pt_B; rw [ht]; exact hP⟩, hS.F ht⟩) hS.2.2 dX3_proceed_108
        · replace hw := hw.2 hc77
          refine lv_aload_n hx hb dX3_proceed_80 rfl (lv_at hl 1 rfl) ?_
          refine pt_callv (pt_runV (n := 0) (As := []) (rest := []) F hP (pt_c3 _ hk0) (pt_l3 hk0) rfl (mtX3_loseQueue l D cA ad hI _ k0 hk0 M_74 _ hw) kw_752 kw_749 kw_57 kw_751 kw_8 ⟨by decide, by decide, by decide +kernel⟩ ⟨rfl, rfl, Nat.le_of_ble_eq_true rfl, Nat.le_of_ble_eq_true rfl⟩ rfl hl.1 rfl (Nat.le_of_ble_eq_true rfl) dX3_proceed_81 ⟨Nat.zero_le _, Nat.zero_le _⟩) hS (fun _ h => h) (fun M_81 H locs hw hP hS _ _ => ?_)
          refine lv_iload_n hx hb dX3_proceed_84 rfl (lv_at hl 3 rfl) ?_
          exact W.iret (v := x3) hx hb hr (fun t ht hW => ⟨⟨x3, M_81, rfl, hw, by unfold pt_B; rw [ht]; exact hP⟩, hS.F ht⟩) hS.2.2 dX3_proceed_85
      intro x2 x3 x4 x5 M H locs ls hw hP hS hl
      replace hw : lbX3_proceed_38 k0 p1 Q (lpX3_proceed_38 k0 p1 Q n38) x2 x3 x4 x5 M := hw
      unfold lbX3_proceed_38 at hw
      refine lv_iload hx hb dX3_proceed_38 (lv_at hl 4 rfl) ?_
      refine lv_sipush (v := 1000) hx hb dX3_proceed_40 (by decide) ?_
      refine lv_icmp_ge (tgt := 149) hx hb dX3_proceed_43 (by decide) (fun hc43 => ?_) (fun hc43 => ?_)
      · replace hw := hw.1 hc43
        refine lv_iload_n hx hb dX3_proceed_149 rfl (lv_at hl 2 rfl) ?_
        exact W.iret (v := x3) hx hb hr (fun t ht hW => ⟨⟨x3, M, rfl, hw, by unfold pt_B; rw [ht]; exact hP⟩, hS.F ht⟩) hS.2.2 dX3_proceed_150
      · replace hw := hw.2 hc43
        refine lv_aload_n hx hb dX3_proceed_46 rfl (lv_at hl 0 rfl) ?_
        refine lv_iload_n hx hb dX3_proceed_47 rfl (lv_at hl 1 rfl) ?_
        refine pt_calli (pt_runV (n := 1) (As := [.int x2]) (rest := []) F hP (pt_c3 _ hk0) (pt_l3 hk0) rfl (mtX3_step l D cA ad hI _ k0 hk0 x2 M _ hw) kw_760 kw_757 kw_57 kw_759 kw_10 ⟨by decide, by decide, by decide +kernel⟩ ⟨rfl, rfl, Nat.le_of_ble_eq_true rfl, Nat.le_of_ble_eq_true rfl⟩ rfl hl.1 rfl (Nat.le_of_ble_eq_true rfl) dX3_proceed_48 ⟨Nat.zero_le _, Nat.zero_le _⟩) hS (fun _ h => h) (fun r_48 M_48 H locs hw hP hS _ _ => ?_)
        refine lv_istore (lv' := [(6, .int r_48), (0, .ref (ad k0)), (2, .int x2), (3, .int x3), (4, .int x4), (5, .int x5)]) hx hb dX3_proceed_51 hl (by decide) rfl (fun ls hl => ?_)
        refine lv_iload_n hx hb dX3_proceed_53 rfl (lv_at hl 3 rfl) ?_
        refine lv_iload hx hb dX3_proceed_54 (lv_at hl 0 rfl) ?_
        refine lv_iadd hx hb dX3_proceed_56 ?_
        refine lv_topi (fun x3_57 ex3_57 => ?_)
        replace hw := hw x3_57 ex3_57
        refine lv_istore_n (lv' := [(3, .int x3_57), (6, .int r_48), (0, .ref (ad k0)), (2, .int x2), (4, .int x4), (5, .int x5)]) hx hb dX3_proceed_57 rfl hl (by decide) rfl (fun ls hl => ?_)
        refine lv_iload hx hb dX3_proceed_58 (lv_at hl 4 rfl) ?_
        refine lv_iload hx hb dX3_proceed_60 (lv_at hl 1 rfl) ?_
        refine lv_if_le (tgt := 69) hx hb dX3_proceed_62 (by decide) (fun hc62 => ?_) (fun hc62 => ?_)
        · replace hw := hw.1 hc62
          refine lv_iconst (v := 0) hx hb dX3_proceed_69 (by decide) ?_
          exact J70 x2 x3_57 x5 r_48 x4 0 M_48 _ _ _ hw hP hS (lv_sub hl [2, 3, 0, 5, 1] rfl)
        · replace hw := hw.2 hc62
          refine lv_iconst (v := 1) hx hb dX3_proceed_65 (by decide) ?_
          refine lv_goto (tgt := 70) hx hb dX3_proceed_66 (by decide) ?_
          exact J70 x2 x3_57 x5 r_48 x4 1 M_48 _ _ _ hw hP hS (lv_sub hl [2, 3, 0, 5, 1] rfl)
  have J28 : ∀ (M : pt_M) (H : Heap) (locs : List Loc) (ls : Array Slot), wjX3_proceed_28 k0 p1 Q M → va_P D pt_cl (pt_W cA ad M) H → va_S (pt_fr ad s.heap.size) s.heap H locs → lv_has ls 7 [(0, .ref (ad k0)), (1, .int p1)] → W p l e (headSpec (Cond.code yX3_proceed cX3_proceed 7 (some .int) :: lw_all) ({ frames := 5, cells := 0, slots := 0, locals := 115 } : Room)).room s m ([.ref (ad k0), .int p1] : List Value).toArray below meth c H locs 0 0 (MQ below (va_Qi Q (pt_B D cA ad) (pt_fr ad s.heap.size)) ([.ref (ad k0), .int p1] : List Value).toArray s 0 0 (pt_fr ad s.heap.size)) (F0 m 28 ls []) := by
    intro M H locs ls hw hP hS hl
    unfold wjX3_proceed_28 at hw
    refine lv_iload_n hx hb dX3_proceed_28 rfl (lv_at hl 1 rfl) ?_
    refine lv_istore_n (lv' := [(2, .int p1), (0, .ref (ad k0)), (1, .int p1)]) hx hb dX3_proceed_29 rfl hl (by decide) rfl (fun ls hl => ?_)
    refine lv_iconst (v := 0) hx hb dX3_proceed_30 (by decide) ?_
    refine lv_istore_n (lv' := [(3, .int 0), (2, .int p1), (0, .ref (ad k0)), (1, .int p1)]) hx hb dX3_proceed_31 rfl hl (by decide) rfl (fun ls hl => ?_)
    refine lv_iconst (v := 0) hx hb dX3_proceed_32 (by decide) ?_
    refine lv_istore (lv' := [(4, .int 0), (3, .int 0), (2, .int p1), (0, .ref (ad k0)), (1, .int p1)]) hx hb dX3_proceed_33 hl (by decide) rfl (fun ls hl => ?_)
    refine lv_iconst (v := 0) hx hb dX3_proceed_35 (by decide) ?_
    refine lv_istore (lv' := [(5, .int 0), (4, .int 0), (3, .int 0), (2, .int p1), (0, .ref (ad k0)), (1, .int p1)]) hx hb dX3_proceed_36 hl (by decide) rfl (fun ls hl => ?_)
    obtain ⟨n_, hw⟩ := hw
    exact L38 n_ p1 0 0 0 M _ _ _ hw hP hS (lv_sub hl [4, 3, 2, 1, 0] rfl)
  unfold wpX3_proceed at hw
  refine lv_aload_n hx hb dX3_proceed_0 rfl (lv_at hl 0 rfl) ?_
  refine lv_iconst (v := 0) hx hb dX3_proceed_1 (by decide) ?_
  refine pt_put F hP hD hS (pt_c3 _ hk0) (pt_l3 hk0) inX3 tyX3 tyX3_ok nmX3 rfl 3 (by decide) kw_296 rfl rfl rfl rfl (Nat.le_of_ble_eq_true rfl) (pt_c3 _ hk0) dX3_proceed_2 (fun M_2 H locs eM_2 hP hS => ?_)
  replace hw := hw M_2 eM_2
  refine lv_aload_n hx hb dX3_proceed_5 rfl (lv_at hl 0 rfl) ?_
  refine pt_calli (pt_runV (n := 0) (As := []) (rest := []) F hP (pt_c3 _ hk0) (pt_l3 hk0) rfl (mtX3_isAtEnd l D cA ad hI _ k0 hk0 M_2 _ hw) kw_409 kw_748 kw_57 kw_407 kw_408 ⟨by decide, by decide, by decide +kernel⟩ ⟨rfl, rfl, Nat.le_of_ble_eq_true rfl, Nat.le_of_ble_eq_true rfl⟩ rfl hl.1 rfl (Nat.le_of_ble_eq_true rfl) dX3_proceed_6 ⟨Nat.zero_le _, Nat.zero_le _⟩) hS (fun _ h => h) (fun r_6 M_6 H locs hw hP hS _ _ => ?_)
  refine lv_if_eq (tgt := 18) hx hb dX3_proceed_9 (by decide) (fun hc9 => ?_) (fun hc9 => ?_)
  · replace hw := hw.1 hc9
    refine lv_iload_n hx hb dX3_proceed_18 rfl (lv_at hl 1 rfl) ?_
    refine lv_bipush (v := 10) hx hb dX3_proceed_19 (by decide) ?_
    refine lv_icmp_ne (tgt := 28) hx hb dX3_proceed_21 (by decide) (fun hc21 => ?_) (fun hc21 => ?_)
    · replace hw := hw.1 hc21
      exact J28 M_6 _ _ _ hw hP hS (lv_sub hl [0, 1] rfl)
    · replace hw := hw.2 hc21
      refine lv_aload_n hx hb dX3_proceed_24 rfl (lv_at hl 0 rfl) ?_
      refine pt_callv (pt_runV (n := 0) (As := []) (rest := []) F hP (pt_c3 _ hk0) (pt_l3 hk0) rfl (mtX3_growOlder l D cA ad hI _ k0 hk0 M_6 _ hw) kw_756 kw_753 kw_57 kw_755 kw_9 ⟨by decide, by decide, by decide +kernel⟩ ⟨rfl, rfl, Nat.le_of_ble_eq_true rfl, Nat.le_of_ble_eq_true rfl⟩ rfl hl.1 rfl (Nat.le_of_ble_eq_true rfl) dX3_proceed_25 ⟨Nat.zero_le _, Nat.zero_le _⟩) hS (fun _ h => h) (fun M_25 H locs hw hP hS _ _ => ?_)
      exact J28 M_25 _ _ _ hw hP hS (lv_sub hl [0, 1] rfl)
  · replace hw := hw.2 hc9
    refine lv_aload_n hx hb dX3_proceed_12 rfl (lv_at hl 0 rfl) ?_
    refine pt_callv (pt_runV (n := 0) (As := []) (rest := []) F hP (pt_c3 _ hk0) (pt_l3 hk0) rfl (mtX3_loseQueue l D cA ad hI _ k0 hk0 M_6 _ hw) kw_752 kw_749 kw_57 kw_751 kw_8 ⟨by decide, by decide, by decide +kernel⟩ ⟨rfl, rfl, Nat.le_of_ble_eq_true rfl, Nat.le_of_ble_eq_true rfl⟩ rfl hl.1 rfl (Nat.le_of_ble_eq_true rfl) dX3_proceed_13 ⟨Nat.zero_le _, Nat.zero_le _⟩) hS (fun _ h => h) (fun M_13 H locs hw hP hS _ _ => ?_)
    refine lv_iconst (v := 0) hx hb dX3_proceed_16 (by decide) ?_
    exact W.iret (v := 0) hx hb hr (fun t ht hW => ⟨⟨0, M_13, rfl, hw, by unfold pt_B; rw [ht]; exact hP⟩, hS.F ht⟩) hS.2.2 dX3_proceed_17
-- ===== X2_isReached
def wjX2_isReached_33 (p1 : Int32) (p2 : Int32) (Q : Int32 → pt_M → Prop)  (xs0 : Int32) (M : pt_M) : Prop :=
  pt_zb xs0 ∧ Q xs0 M
def wpX2_isReached (p1 : Int32) (p2 : Int32) (M : pt_M) (Q : Int32 → pt_M → Prop) : Prop :=
  (¬ p2 = (-1) → wpX7_has (M 133 3) p2 M (fun (r_30 : Int32) (M_30 : pt_M) => wjX2_isReached_33 p1 p2 Q r_30 M_30)) ∧ (p2 = (-1) → wpX7_has (M (133 + 1) 3) p1 M (fun (r_16 : Int32) (M_16 : pt_M) => wjX2_isReached_33 p1 p2 Q r_16 M_16))
set_option maxHeartbeats 4000000 in
set_option maxRecDepth 100000 in
theorem mtX2_isReached (l : Launch) (D : va_G) (cA : Nat → ClassId) (ad : Nat → Nat) (hI : pt_I ad) (sz : Nat) (p1 : Int32) (p2 : Int32) (M : pt_M) (Q : Int32 → pt_M → Prop) (hw : wpX2_isReached p1 p2 M Q) : Met l yX2_isReached (Cond.code yX2_isReached cX2_isReached 3 (some .boolean) :: lw_all) ({ frames := 1, cells := 0, slots := 0, locals := 21 } : Room) (va_Pc [.ref (ad 141), .int p1, .int p2] (pt_P D cA ad sz M)) (va_Qi Q (pt_B D cA ad) (pt_fr ad sz)) 0 0 (pt_fr ad sz) := by
  refine Met.ofW (cc := cX2_isReached) (maxL := 3) (ret := (some .boolean)) (by decide) rfl ?_
  intro p e s m args below meth c s₁ B hml hv
  obtain ⟨rfl, hsz, hP, hK⟩ := hv
  have hx := B.exec
  have hb := B.bytes
  have hr := B.returns
  have hts0 := atoms_spec (ws := (Cond.code yX2_isReached cX2_isReached 3 (some .boolean) :: lw_all)) B.pre
  have hown : s.vm.findClass RX2 = some m.cls := findClass_of_methodNamed B.named
  have hlocks := B.notSynchronized
  subst hsz
  have F : pt_F p m c cX2_isReached 3 s _ RX2 D cA := ⟨⟨hx, hb, hml, hown, fun w h => hts0 w (List.mem_cons_of_mem _ h)⟩, hK⟩
  have hD : ∀ M, va_D (pt_fr ad s.heap.size) (pt_W cA ad M) := pt_D hI (fun k h => Or.inl ⟨k, h, rfl⟩)
  have hS : va_S (pt_fr ad s.heap.size) s.heap s.heap [] := va_S.rf
  have hl := lv_entry ([.ref (ad 141), .int p1, .int p2]) (n := 3) (Nat.le_of_ble_eq_true rfl)
  rw [lg_entry_eq]
  generalize (lg_sl ([.ref (ad 141), .int p1, .int p2]) ++ List.replicate (3 - (lg_sl ([.ref (ad 141), .int p1, .int p2])).length) Slot.unset).toArray = ls at hl ⊢
  have hl : lv_has ls 3 [(0, .ref (ad 141)), (1, .int p1), (2, .int p2)] := hl
  have J33 : ∀ (xs0 : Int32) (M : pt_M) (H : Heap) (locs : List Loc) (ls : Array Slot), wjX2_isReached_33 p1 p2 Q xs0 M → va_P D pt_cl (pt_W cA ad M) H → va_S (pt_fr ad s.heap.size) s.heap H locs → lv_has ls 3 [] → W p l e (headSpec (Cond.code yX2_isReached cX2_isReached 3 (some .boolean) :: lw_all) ({ frames := 1, cells := 0, slots := 0, locals := 21 } : Room)).room s m ([.ref (ad 141), .int p1, .int p2] : List Value).toArray below meth c H locs 0 0 (MQ below (va_Qi Q (pt_B D cA ad) (pt_fr ad s.heap.size)) ([.ref (ad 141), .int p1, .int p2] : List Value).toArray s 0 0 (pt_fr ad s.heap.size)) (F0 m 33 ls [.int xs0]) := by
    intro xs0 M H locs ls hw hP hS hl
    unfold wjX2_isReached_33 at hw
    exact W.zret (v := xs0) (ty := .boolean) hx hb hr (pt_zb_n hw.1) (fun t ht hW => ⟨⟨xs0, M, rfl, hw.2, by unfold pt_B; rw [ht]; exact hP⟩, hS.F ht⟩) hS.2.2 dX2_isReached_33
  unfold wpX2_isReached at hw
  refine lv_iload_n hx hb dX2_isReached_0 rfl (lv_at hl 2 rfl) ?_
  refine lv_iconst (v := (-1)) hx hb dX2_isReached_1 (by decide) ?_
  refine lv_icmp_ne (tgt := 22) hx hb dX2_isReached_2 (by decide) (fun hc2 => ?_) (fun hc2 => ?_)
  · replace hw := hw.1 hc2
    refine lv_aload_n hx hb dX2_isReached_22 rfl (lv_at hl 0 rfl) ?_
    refine pt_get F hP (pt_c2 _ pt_k141) (pt_l2 pt_k141) inX2 rfl 3 (by decide) kw_345 rfl rfl dX2_isReached_23 ?_
    refine pt_get F hP (pt_c3 _ pt_k133) (pt_l3 pt_k133) inX3 rfl 3 (by decide) kw_295 rfl rfl dX2_isReached_26 ?_
    refine lv_iload_n hx hb dX2_isReached_29 rfl (lv_at hl 2 rfl) ?_
    refine pt_calli (pt_runSN (n := 2) (As := [.int (M 133 3), .int p2]) (rest := []) F hP (mtX7_has l D cA ad hI _ (M 133 3) p2 M _ hw) kw_449 kw_920 kw_52 kw_448 ⟨by decide, by decide, by decide +kernel⟩ ⟨rfl, rfl, Nat.le_of_ble_eq_true rfl, Nat.le_of_ble_eq_true rfl⟩ rfl hl.1 rfl (Nat.le_of_ble_eq_true rfl) dX2_isReached_30 ⟨Nat.zero_le _, Nat.zero_le _⟩) hS (fun _ h => h) (fun r_30 M_30 H locs hw hP hS _ _ => ?_)
    exact J33 r_30 M_30 _ _ _ hw hP hS (lv_sub hl [] rfl)
  · replace hw := hw.2 hc2
    refine lv_aload_n hx hb dX2_isReached_5 rfl (lv_at hl 0 rfl) ?_
    refine pt_get F hP (pt_c2 _ pt_k141) (pt_l2 pt_k141) inX2 rfl 3 (by decide) kw_345 rfl rfl dX2_isReached_6 ?_
    refine pt_get F hP (pt_c3 _ pt_k133) (pt_l3 pt_k133) inX3 rfl 1 (by decide) kw_291 rfl rfl dX2_isReached_9 ?_
    refine pt_get F hP (pt_c4 _ (pt_3s pt_k133)) (pt_l4 (pt_3s pt_k133)) inX4 rfl 3 (by decide) kw_277 rfl rfl dX2_isReached_12 ?_
    refine lv_iload_n hx hb dX2_isReached_15 rfl (lv_at hl 1 rfl) ?_
    refine pt_calli (pt_runSN (n := 2) (As := [.int (M (133 + 1) 3), .int p1]) (rest := []) F hP (mtX7_has l D cA ad hI _ (M (133 + 1) 3) p1 M _ hw) kw_449 kw_920 kw_52 kw_448 ⟨by decide, by decide, by decide +kernel⟩ ⟨rfl, rfl, Nat.le_of_ble_eq_true rfl, Nat.le_of_ble_eq_true rfl⟩ rfl hl.1 rfl (Nat.le_of_ble_eq_true rfl) dX2_isReached_16 ⟨Nat.zero_le _, Nat.zero_le _⟩) hS (fun _ h => h) (fun r_16 M_16 H locs hw hP hS _ _ => ?_)
    refine lv_goto (tgt := 33) hx hb dX2_isReached_19 (by decide) ?_
    exact J33 r_16 M_16 _ _ _ hw hP hS (lv_sub hl [] rfl)
-- ===== X2_writeRow
def lbX2_writeRow_34 (p1 : Int32) (p2 : Int32) (Q : pt_M → Prop)  (R34 : Int32 → Int32 → pt_M → Prop) (x3 : Int32) (x4 : Int32) (M : pt_M) : Prop :=
  (x4 < 0 → Q M) ∧ (¬ x4 < 0 → vp_in x3 60 ∧ (vp_in x4 8 ∧ ∀ M_51 : pt_M, M_51 = pt_st M 142 (Int32.toNatClampNeg x4) (M 145 (Int32.toNatClampNeg x3)) → vp_in x3 60 ∧ (∀ x3_58 : Int32, x3_58 = (M_51 144 (Int32.toNatClampNeg x3)) → ∀ x4_59 : Int32, x4_59 = x4 + (-1) → R34 x3_58 x4_59 M_51)))
def lpX2_writeRow_34 (p1 : Int32) (p2 : Int32) (Q : pt_M → Prop)  : Nat → Int32 → Int32 → pt_M → Prop
  | 0 => fun _ _ _ => False
  | n + 1 => fun x3 x4 M => lbX2_writeRow_34 p1 p2 Q (lpX2_writeRow_34 p1 p2 Q n) x3 x4 M
def wpX2_writeRow (p1 : Int32) (p2 : Int32) (M : pt_M) (Q : pt_M → Prop) : Prop :=
  vp_in p1 60 ∧ (∀ M_9 : pt_M, M_9 = pt_st M 141 1 ((M 146 (Int32.toNatClampNeg p1)) + 1) → vp_in ((M_9 141 1) - 1) 8 ∧ ∀ M_23 : pt_M, M_23 = pt_st M_9 142 (Int32.toNatClampNeg ((M_9 141 1) - 1)) p2 → ∀ x4_32 : Int32, x4_32 = ((M_23 141 1) - 2) → ∃ n : Nat, lpX2_writeRow_34 p1 p2 Q n p1 x4_32 M_23)
set_option maxHeartbeats 4000000 in
set_option maxRecDepth 100000 in
theorem mtX2_writeRow (l : Launch) (D : va_G) (cA : Nat → ClassId) (ad : Nat → Nat) (hI : pt_I ad) (sz : Nat) (p1 : Int32) (p2 : Int32) (M : pt_M) (Q : pt_M → Prop) (hw : wpX2_writeRow p1 p2 M Q) : Met l yX2_writeRow (Cond.code yX2_writeRow cX2_writeRow 5 none :: lw_all) ({ frames := 0, cells := 0, slots := 0, locals := 0 } : Room) (va_Pc [.ref (ad 141), .int p1, .int p2] (pt_P D cA ad sz M)) (va_Qv Q (pt_B D cA ad) (pt_fr ad sz)) 0 0 (pt_fr ad sz) := by
  refine Met.ofW (cc := cX2_writeRow) (maxL := 5) (ret := none) (by decide) rfl ?_
  intro p e s m args below meth c s₁ B hml hv
  obtain ⟨rfl, hsz, hP, hK⟩ := hv
  have hx := B.exec
  have hb := B.bytes
  have hr := B.returns
  have hts0 := atoms_spec (ws := (Cond.code yX2_writeRow cX2_writeRow 5 none :: lw_all)) B.pre
  have hown : s.vm.findClass RX2 = some m.cls := findClass_of_methodNamed B.named
  have hlocks := B.notSynchronized
  subst hsz
  have F : pt_F p m c cX2_writeRow 5 s _ RX2 D cA := ⟨⟨hx, hb, hml, hown, fun w h => hts0 w (List.mem_cons_of_mem _ h)⟩, hK⟩
  have hD : ∀ M, va_D (pt_fr ad s.heap.size) (pt_W cA ad M) := pt_D hI (fun k h => Or.inl ⟨k, h, rfl⟩)
  have hS : va_S (pt_fr ad s.heap.size) s.heap s.heap [] := va_S.rf
  have hl := lv_entry ([.ref (ad 141), .int p1, .int p2]) (n := 5) (Nat.le_of_ble_eq_true rfl)
  rw [lg_entry_eq]
  generalize (lg_sl ([.ref (ad 141), .int p1, .int p2]) ++ List.replicate (5 - (lg_sl ([.ref (ad 141), .int p1, .int p2])).length) Slot.unset).toArray = ls at hl ⊢
  have hl : lv_has ls 5 [(0, .ref (ad 141)), (1, .int p1), (2, .int p2)] := hl
  have L34 : ∀ (n34 : Nat) (x3 : Int32) (x4 : Int32) (M : pt_M) (H : Heap) (locs : List Loc) (ls : Array Slot), lpX2_writeRow_34 p1 p2 Q n34 x3 x4 M → va_P D pt_cl (pt_W cA ad M) H → va_S (pt_fr ad s.heap.size) s.heap H locs → lv_has ls 5 [(0, .ref (ad 141)), (3, .int x3), (4, .int x4)] → W p l e (headSpec (Cond.code yX2_writeRow cX2_writeRow 5 none :: lw_all) ({ frames := 0, cells := 0, slots := 0, locals := 0 } : Room)).room s m ([.ref (ad 141), .int p1, .int p2] : List Value).toArray below meth c H locs 0 0 (MQ below (va_Qv Q (pt_B D cA ad) (pt_fr ad s.heap.size)) ([.ref (ad 141), .int p1, .int p2] : List Value).toArray s 0 0 (pt_fr ad s.heap.size)) (F0 m 34 ls []) := by
    intro n34
    induction n34 with
    | zero => intro x3 x4 M H locs ls hw; exact hw.elim
    | succ n34 ih34 =>
      intro x3 x4 M H locs ls hw hP hS hl
      replace hw : lbX2_writeRow_34 p1 p2 Q (lpX2_writeRow_34 p1 p2 Q n34) x3 x4 M := hw
      unfold lbX2_writeRow_34 at hw
      refine lv_iload hx hb dX2_writeRow_34 (lv_at hl 2 rfl) ?_
      refine lv_if_lt (tgt := 65) hx hb dX2_writeRow_36 (by decide) (fun hc36 => ?_) (fun hc36 => ?_)
      · replace hw := hw.1 hc36
        exact W.vret hx hb hr (fun t ht hW => ⟨⟨M, rfl, hw, by unfold pt_B; rw [ht]; exact hP⟩, hS.F ht⟩) hS.2.2 dX2_writeRow_65
      · replace hw := hw.2 hc36
        refine lv_aload_n hx hb dX2_writeRow_39 rfl (lv_at hl 0 rfl) ?_
        refine pt_get F hP (pt_c2 _ pt_k141) (pt_l2 pt_k141) inX2 rfl 0 (by decide) kw_339 rfl rfl dX2_writeRow_40 ?_
        refine lv_iload hx hb dX2_writeRow_43 (lv_at hl 2 rfl) ?_
        refine lv_aload_n hx hb dX2_writeRow_45 rfl (lv_at hl 0 rfl) ?_
        refine pt_get F hP (pt_c2 _ pt_k141) (pt_l2 pt_k141) inX2 rfl 6 (by decide) kw_348 rfl rfl dX2_writeRow_46 ?_
        refine lv_iload_n hx hb dX2_writeRow_49 rfl (lv_at hl 1 rfl) ?_
        have hv50 := hw.1
        replace hw := hw.2
        refine pt_iald F hP pt_a145 hv50 dX2_writeRow_50 ?_
        have hv51 := hw.1
        replace hw := hw.2
        refine pt_iast F hP hD hS pt_a142 hv51 dX2_writeRow_51 (fun M_51 H locs eM_51 hP hS => ?_)
        replace hw := hw M_51 eM_51
        refine lv_aload_n hx hb dX2_writeRow_52 rfl (lv_at hl 0 rfl) ?_
        refine pt_get F hP (pt_c2 _ pt_k141) (pt_l2 pt_k141) inX2 rfl 5 (by decide) kw_347 rfl rfl dX2_writeRow_53 ?_
        refine lv_iload_n hx hb dX2_writeRow_56 rfl (lv_at hl 1 rfl) ?_
        have hv57 := hw.1
        replace hw := hw.2
        refine pt_iald F hP pt_a144 hv57 dX2_writeRow_57 ?_
        refine lv_topi (fun x3_58 ex3_58 => ?_)
        replace hw := hw x3_58 ex3_58
        refine lv_istore_n (lv' := [(3, .int x3_58), (0, .ref (ad 141)), (4, .int x4)]) hx hb dX2_writeRow_58 rfl hl (by decide) rfl (fun ls hl => ?_)
        obtain ⟨x4_59, ex4_59⟩ : ∃ y : Int32, y = x4 + (-1) := ⟨_, rfl⟩
        replace hw := hw x4_59 ex4_59
        refine lv_iinc (v := x4_59) (lv' := [(4, .int x4_59), (3, .int x3_58), (0, .ref (ad 141))]) hx hb dX2_writeRow_59 hl (k := 2) rfl (by rw [ex4_59]; rfl) (by decide) rfl (fun ls hl => ?_)
        refine lv_goto (tgt := 34) hx hb dX2_writeRow_62 (by decide) ?_
        exact ih34 x3_58 x4_59 M_51 _ _ _ hw hP hS (lv_sub hl [2, 1, 0] rfl)
  unfold wpX2_writeRow at hw
  refine lv_aload_n hx hb dX2_writeRow_0 rfl (lv_at hl 0 rfl) ?_
  refine lv_aload_n hx hb dX2_writeRow_1 rfl (lv_at hl 0 rfl) ?_
  refine pt_get F hP (pt_c2 _ pt_k141) (pt_l2 pt_k141) inX2 rfl 7 (by decide) kw_349 rfl rfl dX2_writeRow_2 ?_
  refine lv_iload_n hx hb dX2_writeRow_5 rfl (lv_at hl 1 rfl) ?_
  have hv6 := hw.1
  replace hw := hw.2
  refine pt_iald F hP pt_a146 hv6 dX2_writeRow_6 ?_
  refine lv_iconst (v := 1) hx hb dX2_writeRow_7 (by decide) ?_
  refine lv_iadd hx hb dX2_writeRow_8 ?_
  refine pt_put F hP hD hS (pt_c2 _ pt_k141) (pt_l2 pt_k141) inX2 tyX2 tyX2_ok nmX2 rfl 1 (by decide) kw_341 rfl rfl rfl rfl (Nat.le_of_ble_eq_true rfl) (pt_c2 _ pt_k141) dX2_writeRow_9 (fun M_9 H locs eM_9 hP hS => ?_)
  replace hw := hw M_9 eM_9
  refine lv_aload_n hx hb dX2_writeRow_12 rfl (lv_at hl 0 rfl) ?_
  refine pt_get F hP (pt_c2 _ pt_k141) (pt_l2 pt_k141) inX2 rfl 0 (by decide) kw_339 rfl rfl dX2_writeRow_13 ?_
  refine lv_aload_n hx hb dX2_writeRow_16 rfl (lv_at hl 0 rfl) ?_
  refine pt_get F hP (pt_c2 _ pt_k141) (pt_l2 pt_k141) inX2 rfl 1 (by decide) kw_341 rfl rfl dX2_writeRow_17 ?_
  refine lv_iconst (v := 1) hx hb dX2_writeRow_20 (by decide) ?_
  refine lv_isub hx hb dX2_writeRow_21 ?_
  refine lv_iload_n hx hb dX2_writeRow_22 rfl (lv_at hl 2 rfl) ?_
  have hv23 := hw.1
  replace hw := hw.2
  refine pt_iast F hP hD hS pt_a142 hv23 dX2_writeRow_23 (fun M_23 H locs eM_23 hP hS => ?_)
  replace hw := hw M_23 eM_23
  refine lv_iload_n hx hb dX2_writeRow_24 rfl (lv_at hl 1 rfl) ?_
  refine lv_istore_n (lv' := [(3, .int p1), (0, .ref (ad 141)), (1, .int p1), (2, .int p2)]) hx hb dX2_writeRow_25 rfl hl (by decide) rfl (fun ls hl => ?_)
  refine lv_aload_n hx hb dX2_writeRow_26 rfl (lv_at hl 1 rfl) ?_
  refine pt_get F hP (pt_c2 _ pt_k141) (pt_l2 pt_k141) inX2 rfl 1 (by decide) kw_341 rfl rfl dX2_writeRow_27 ?_
  refine lv_iconst (v := 2) hx hb dX2_writeRow_30 (by decide) ?_
  refine lv_isub hx hb dX2_writeRow_31 ?_
  refine lv_topi (fun x4_32 ex4_32 => ?_)
  replace hw := hw x4_32 ex4_32
  refine lv_istore (lv' := [(4, .int x4_32), (3, .int p1), (0, .ref (ad 141)), (1, .int p1), (2, .int p2)]) hx hb dX2_writeRow_32 hl (by decide) rfl (fun ls hl => ?_)
  obtain ⟨n_, hw⟩ := hw
  exact L34 n_ p1 x4_32 M_23 _ _ _ hw hP hS (lv_sub hl [2, 1, 0] rfl)
