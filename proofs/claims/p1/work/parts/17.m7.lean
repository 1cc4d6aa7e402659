-- ===== X2_keepIfNew
def lbX2_keepIfNew_15 (p1 : Int32) (p2 : Int32) (Q : pt_M → Prop)  (R15 : Int32 → pt_M → Prop) (x3 : Int32) (M : pt_M) : Prop :=
  ((M 141 8) ≤ x3 → vp_in (M 141 8) 60 ∧ (wpX4_copyFrom (pt_q (M 141 8)) (133 + 1) M (fun (M_65 : pt_M) => vp_in (M_65 141 8) 60 ∧ ∀ M_77 : pt_M, M_77 = pt_st M_65 144 (Int32.toNatClampNeg (M_65 141 8)) p1 → vp_in (M_77 141 8) 60 ∧ ∀ M_87 : pt_M, M_87 = pt_st M_77 145 (Int32.toNatClampNeg (M_77 141 8)) p2 → vp_in p1 60 ∧ (vp_in (M_87 141 8) 60 ∧ ∀ M_104 : pt_M, M_104 = pt_st M_87 146 (Int32.toNatClampNeg (M_87 141 8)) ((M_87 146 (Int32.toNatClampNeg p1)) + 1) → ∀ M_112 : pt_M, M_112 = pt_st M_104 141 8 ((M_104 141 8) + 1) → Q M_112)))) ∧ (¬ (M 141 8) ≤ x3 → vp_in x3 60 ∧ (wpX4_isSameAs (pt_q x3) (133 + 1) M (fun (r_36 : Int32) (M_36 : pt_M) => (r_36 = 0 → ∀ x3_43 : Int32, x3_43 = x3 + 1 → R15 x3_43 M_36) ∧ (¬ r_36 = 0 → Q M_36))))
def lpX2_keepIfNew_15 (p1 : Int32) (p2 : Int32) (Q : pt_M → Prop)  : Nat → Int32 → pt_M → Prop
  | 0 => fun _ _ => False
  | n + 1 => fun x3 M => lbX2_keepIfNew_15 p1 p2 Q (lpX2_keepIfNew_15 p1 p2 Q n) x3 M
def wpX2_keepIfNew (p1 : Int32) (p2 : Int32) (M : pt_M) (Q : pt_M → Prop) : Prop :=
  ((M 141 8) < 60 → ∃ n : Nat, lpX2_keepIfNew_15 p1 p2 Q n 0 M) ∧ (¬ (M 141 8) < 60 → Q M)
set_option maxHeartbeats 4000000 in
set_option maxRecDepth 100000 in
theorem mtX2_keepIfNew (l : Launch) (D : va_G) (cA : Nat → ClassId) (ad : Nat → Nat) (hI : pt_I ad) (sz : Nat) (p1 : Int32) (p2 : Int32) (M : pt_M) (Q : pt_M → Prop) (hw : wpX2_keepIfNew p1 p2 M Q) : Met l yX2_keepIfNew (Cond.code yX2_keepIfNew cX2_keepIfNew 4 none :: lw_all) ({ frames := 2, cells := 0, slots := 0, locals := 61 } : Room) (va_Pc [.ref (ad 141), .int p1, .int p2] (pt_P D cA ad sz M)) (va_Qv Q (pt_B D cA ad) (pt_fr ad sz)) 0 0 (pt_fr ad sz) := by
  refine Met.ofW (cc := cX2_keepIfNew) (maxL := 4) (ret := none) (by decide) rfl ?_
  intro p e s m args below meth c s₁ B hml hv
  obtain ⟨rfl, hsz, hP, hK⟩ := hv
  have hx := B.exec
  have hb := B.bytes
  have hr := B.returns
  have hts0 := atoms_spec (ws := (Cond.code yX2_keepIfNew cX2_keepIfNew 4 none :: lw_all)) B.pre
  have hown : s.vm.findClass RX2 = some m.cls := findClass_of_methodNamed B.named
  have hlocks := B.notSynchronized
  subst hsz
  have F : pt_F p m c cX2_keepIfNew 4 s _ RX2 D cA := ⟨⟨hx, hb, hml, hown, fun w h => hts0 w (List.mem_cons_of_mem _ h)⟩, hK⟩
  have hD : ∀ M, va_D (pt_fr ad s.heap.size) (pt_W cA ad M) := pt_D hI (fun k h => Or.inl ⟨k, h, rfl⟩)
  have hS : va_S (pt_fr ad s.heap.size) s.heap s.heap [] := va_S.rf
  have hl := lv_entry ([.ref (ad 141), .int p1, .int p2]) (n := 4) (Nat.le_of_ble_eq_true rfl)
  rw [lg_entry_eq]
  generalize (lg_sl ([.ref (ad 141), .int p1, .int p2]) ++ List.replicate (4 - (lg_sl ([.ref (ad 141), .int p1, .int p2])).length) Slot.unset).toArray = ls at hl ⊢
  have hl : lv_has ls 4 [(0, .ref (ad 141)), (1, .int p1), (2, .int p2)] := hl
  have L15 : ∀ (n15 : Nat) (x3 : Int32) (M : pt_M) (H : Heap) (locs : List Loc) (ls : Array Slot), lpX2_keepIfNew_15 p1 p2 Q n15 x3 M → va_P D pt_cl (pt_W cA ad M) H → va_S (pt_fr ad s.heap.size) s.heap H locs → lv_has ls 4 [(0, .ref (ad 141)), (1, .int p1), (2, .int p2), (3, .int x3)] → W p l e (headSpec (Cond.code yX2_keepIfNew cX2_keepIfNew 4 none :: lw_all) ({ frames := 2, cells := 0, slots := 0, locals := 61 } : Room)).room s m ([.ref (ad 141), .int p1, .int p2] : List Value).toArray below meth c H locs 0 0 (MQ below (va_Qv Q (pt_B D cA ad) (pt_fr ad s.heap.size)) ([.ref (ad 141), .int p1, .int p2] : List Value).toArray s 0 0 (pt_fr ad s.heap.size)) (F0 m 15 ls []) := by
    intro n15
    induction n15 with
    | zero => intro x3 M H locs ls hw; exact hw.elim
    | succ n15 ih15 =>
      intro x3 M H locs ls hw hP hS hl
      replace hw : lbX2_keepIfNew_15 p1 p2 Q (lpX2_keepIfNew_15 p1 p2 Q n15) x3 M := hw
      unfold lbX2_keepIfNew_15 at hw
      refine lv_iload_n hx hb dX2_keepIfNew_15 rfl (lv_at hl 3 rfl) ?_
      refine lv_aload_n hx hb dX2_keepIfNew_16 rfl (lv_at hl 0 rfl) ?_
      refine pt_get F hP (pt_c2 _ pt_k141) (pt_l2 pt_k141) inX2 rfl 8 (by decide) kw_350 rfl rfl dX2_keepIfNew_17 ?_
      refine lv_icmp_ge (tgt := 49) hx hb dX2_keepIfNew_20 (by decide) (fun hc20 => ?_) (fun hc20 => ?_)
      · replace hw := hw.1 hc20
        refine lv_aload_n hx hb dX2_keepIfNew_49 rfl (lv_at hl 0 rfl) ?_
        refine pt_get F hP (pt_c2 _ pt_k141) (pt_l2 pt_k141) inX2 rfl 4 (by decide) kw_346 rfl rfl dX2_keepIfNew_50 ?_
        refine lv_aload_n hx hb dX2_keepIfNew_53 rfl (lv_at hl 0 rfl) ?_
        refine pt_get F hP (pt_c2 _ pt_k141) (pt_l2 pt_k141) inX2 rfl 8 (by decide) kw_350 rfl rfl dX2_keepIfNew_54 ?_
        have hv57 := hw.1
        replace hw := hw.2
        refine pt_aldq F hP hv57 dX2_keepIfNew_57 ?_
        refine lv_aload_n hx hb dX2_keepIfNew_58 rfl (lv_at hl 0 rfl) ?_
        refine pt_get F hP (pt_c2 _ pt_k141) (pt_l2 pt_k141) inX2 rfl 3 (by decide) kw_345 rfl rfl dX2_keepIfNew_59 ?_
        refine pt_get F hP (pt_c3 _ pt_k133) (pt_l3 pt_k133) inX3 rfl 1 (by decide) kw_291 rfl rfl dX2_keepIfNew_62 ?_
        refine pt_callv (pt_runV (n := 1) (As := [.ref (ad (133 + 1))]) (rest := []) F hP (pt_c4 _ (pt_kq hv57)) (pt_l4 (pt_kq hv57)) rfl (mtX4_copyFrom l D cA ad hI _ (pt_q (M 141 8)) (pt_kq hv57) (133 + 1) (pt_3s pt_k133) M _ hw) kw_887 kw_921 kw_58 kw_885 kw_886 ⟨by decide, by decide, by decide +kernel⟩ ⟨rfl, rfl, Nat.le_of_ble_eq_true rfl, Nat.le_of_ble_eq_true rfl⟩ rfl hl.1 rfl (Nat.le_of_ble_eq_true rfl) dX2_keepIfNew_65 ⟨Nat.zero_le _, Nat.zero_le _⟩) hS (fun _ h => h) (fun M_65 H locs hw hP hS _ _ => ?_)
        refine lv_aload_n hx hb dX2_keepIfNew_68 rfl (lv_at hl 0 rfl) ?_
        refine pt_get F hP (pt_c2 _ pt_k141) (pt_l2 pt_k141) inX2 rfl 5 (by decide) kw_347 rfl rfl dX2_keepIfNew_69 ?_
        refine lv_aload_n hx hb dX2_keepIfNew_72 rfl (lv_at hl 0 rfl) ?_
        refine pt_get F hP (pt_c2 _ pt_k141) (pt_l2 pt_k141) inX2 rfl 8 (by decide) kw_350 rfl rfl dX2_keepIfNew_73 ?_
        refine lv_iload_n hx hb dX2_keepIfNew_76 rfl (lv_at hl 1 rfl) ?_
        have hv77 := hw.1
        replace hw := hw.2
        refine pt_iast F hP hD hS pt_a144 hv77 dX2_keepIfNew_77 (fun M_77 H locs eM_77 hP hS => ?_)
        replace hw := hw M_77 eM_77
        refine lv_aload_n hx hb dX2_keepIfNew_78 rfl (lv_at hl 0 rfl) ?_
        refine pt_get F hP (pt_c2 _ pt_k141) (pt_l2 pt_k141) inX2 rfl 6 (by decide) kw_348 rfl rfl dX2_keepIfNew_79 ?_
        refine lv_aload_n hx hb dX2_keepIfNew_82 rfl (lv_at hl 0 rfl) ?_
        refine pt_get F hP (pt_c2 _ pt_k141) (pt_l2 pt_k141) inX2 rfl 8 (by decide) kw_350 rfl rfl dX2_keepIfNew_83 ?_
        refine lv_iload_n hx hb dX2_keepIfNew_86 rfl (lv_at hl 2 rfl) ?_
        have hv87 := hw.1
        replace hw := hw.2
        refine pt_iast F hP hD hS pt_a145 hv87 dX2_keepIfNew_87 (fun M_87 H locs eM_87 hP hS => ?_)
        replace hw := hw M_87 eM_87
        refine lv_aload_n hx hb dX2_keepIfNew_88 rfl (lv_at hl 0 rfl) ?_
        refine pt_get F hP (pt_c2 _ pt_k141) (pt_l2 pt_k141) inX2 rfl 7 (by decide) kw_349 rfl rfl dX2_keepIfNew_89 ?_
        refine lv_aload_n hx hb dX2_keepIfNew_92 rfl (lv_at hl 0 rfl) ?_
        refine pt_get F hP (pt_c2 _ pt_k141) (pt_l2 pt_k141) inX2 rfl 8 (by decide) kw_350 rfl rfl dX2_keepIfNew_93 ?_
        refine lv_aload_n hx hb dX2_keepIfNew_96 rfl (lv_at hl 0 rfl) ?_
        refine pt_get F hP (pt_c2 _ pt_k141) (pt_l2 pt_k141) inX2 rfl 7 (by decide) kw_349 rfl rfl dX2_keepIfNew_97 ?_
        refine lv_iload_n hx hb dX2_keepIfNew_100 rfl (lv_at hl 1 rfl) ?_
        have hv101 := hw.1
        replace hw := hw.2
        refine pt_iald F hP pt_a146 hv101 dX2_keepIfNew_101 ?_
        refine lv_iconst (v := 1) hx hb dX2_keepIfNew_102 (by decide) ?_
        refine lv_iadd hx hb dX2_keepIfNew_103 ?_
        have hv104 := hw.1
        replace hw := hw.2
        refine pt_iast F hP hD hS pt_a146 hv104 dX2_keepIfNew_104 (fun M_104 H locs eM_104 hP hS => ?_)
        replace hw := hw M_104 eM_104
        refine lv_aload_n hx hb dX2_keepIfNew_105 rfl (lv_at hl 0 rfl) ?_
        refine lv_dup hx hb dX2_keepIfNew_106 rfl ?_
        refine pt_get F hP (pt_c2 _ pt_k141) (pt_l2 pt_k141) inX2 rfl 8 (by decide) kw_350 rfl rfl dX2_keepIfNew_107 ?_
        refine lv_iconst (v := 1) hx hb dX2_keepIfNew_110 (by decide) ?_
        refine lv_iadd hx hb dX2_keepIfNew_111 ?_
        refine pt_put F hP hD hS (pt_c2 _ pt_k141) (pt_l2 pt_k141) inX2 tyX2 tyX2_ok nmX2 rfl 8 (by decide) kw_350 rfl rfl rfl rfl (Nat.le_of_ble_eq_true rfl) (pt_c2 _ pt_k141) dX2_keepIfNew_112 (fun M_112 H locs eM_112 hP hS => ?_)
        replace hw := hw M_112 eM_112
        exact W.vret hx hb hr (fun t ht hW => ⟨⟨M_112, rfl, hw, by unfold pt_B; rw [ht]; exact hP⟩, hS.F ht⟩) hS.2.2 dX2_keepIfNew_115
      · replace hw := hw.2 hc20
        refine lv_aload_n hx hb dX2_keepIfNew_23 rfl (lv_at hl 0 rfl) ?_
        refine pt_get F hP (pt_c2 _ pt_k141) (pt_l2 pt_k141) inX2 rfl 4 (by decide) kw_346 rfl rfl dX2_keepIfNew_24 ?_
        refine lv_iload_n hx hb dX2_keepIfNew_27 rfl (lv_at hl 3 rfl) ?_
        have hv28 := hw.1
        replace hw := hw.2
        refine pt_aldq F hP hv28 dX2_keepIfNew_28 ?_
        refine lv_aload_n hx hb dX2_keepIfNew_29 rfl (lv_at hl 0 rfl) ?_
        refine pt_get F hP (pt_c2 _ pt_k141) (pt_l2 pt_k141) inX2 rfl 3 (by decide) kw_345 rfl rfl dX2_keepIfNew_30 ?_
        refine pt_get F hP (pt_c3 _ pt_k133) (pt_l3 pt_k133) inX3 rfl 1 (by decide) kw_291 rfl rfl dX2_keepIfNew_33 ?_
        refine pt_calli (pt_runV (n := 1) (As := [.ref (ad (133 + 1))]) (rest := []) F hP (pt_c4 _ (pt_kq hv28)) (pt_l4 (pt_kq hv28)) rfl (mtX4_isSameAs l D cA ad hI _ (pt_q x3) (pt_kq hv28) (133 + 1) (pt_3s pt_k133) M _ hw) kw_938 kw_935 kw_58 kw_936 kw_937 ⟨by decide, by decide, by decide +kernel⟩ ⟨rfl, rfl, Nat.le_of_ble_eq_true rfl, Nat.le_of_ble_eq_true rfl⟩ rfl hl.1 rfl (Nat.le_of_ble_eq_true rfl) dX2_keepIfNew_36 ⟨Nat.zero_le _, Nat.zero_le _⟩) hS (fun _ h => h) (fun r_36 M_36 H locs hw hP hS _ _ => ?_)
        refine lv_if_eq (tgt := 43) hx hb dX2_keepIfNew_39 (by decide) (fun hc39 => ?_) (fun hc39 => ?_)
        · replace hw := hw.1 hc39
          obtain ⟨x3_43, ex3_43⟩ : ∃ y : Int32, y = x3 + 1 := ⟨_, rfl⟩
          replace hw := hw x3_43 ex3_43
          refine lv_iinc (v := x3_43) (lv' := [(3, .int x3_43), (0, .ref (ad 141)), (1, .int p1), (2, .int p2)]) hx hb dX2_keepIfNew_43 hl (k := 3) rfl (by rw [ex3_43]; rfl) (by decide) rfl (fun ls hl => ?_)
          refine lv_goto (tgt := 15) hx hb dX2_keepIfNew_46 (by decide) ?_
          exact ih15 x3_43 M_36 _ _ _ hw hP hS (lv_sub hl [1, 2, 3, 0] rfl)
        · replace hw := hw.2 hc39
          exact W.vret hx hb hr (fun t ht hW => ⟨⟨M_36, rfl, hw, by unfold pt_B; rw [ht]; exact hP⟩, hS.F ht⟩) hS.2.2 dX2_keepIfNew_42
  unfold wpX2_keepIfNew at hw
  refine lv_aload_n hx hb dX2_keepIfNew_0 rfl (lv_at hl 0 rfl) ?_
  refine pt_get F hP (pt_c2 _ pt_k141) (pt_l2 pt_k141) inX2 rfl 8 (by decide) kw_350 rfl rfl dX2_keepIfNew_1 ?_
  refine lv_aload_n hx hb dX2_keepIfNew_4 rfl (lv_at hl 0 rfl) ?_
  refine pt_get F hP (pt_c2 _ pt_k141) (pt_l2 pt_k141) inX2 rfl 4 (by decide) kw_346 rfl rfl dX2_keepIfNew_5 ?_
  refine pt_alen11 (v := 60) F hP rfl dX2_keepIfNew_8 ?_
  refine lv_icmp_lt (tgt := 13) hx hb dX2_keepIfNew_9 (by decide) (fun hc9 => ?_) (fun hc9 => ?_)
  · replace hw := hw.1 hc9
    refine lv_iconst (v := 0) hx hb dX2_keepIfNew_13 (by decide) ?_
    refine lv_istore_n (lv' := [(3, .int 0), (0, .ref (ad 141)), (1, .int p1), (2, .int p2)]) hx hb dX2_keepIfNew_14 rfl hl (by decide) rfl (fun ls hl => ?_)
    obtain ⟨n_, hw⟩ := hw
    exact L15 n_ 0 M _ _ _ hw hP hS (lv_sub hl [1, 2, 3, 0] rfl)
  · replace hw := hw.2 hc9
    exact W.vret hx hb hr (fun t ht hW => ⟨⟨M, rfl, hw, by unfold pt_B; rw [ht]; exact hP⟩, hS.F ht⟩) hS.2.2 dX2_keepIfNew_12
-- ===== X2_search
def wjX2_search_179 (k1 : Nat) (p2 : Int32) (p3 : Int32) (p4 : Int32) (Q : Int32 → pt_M → Prop)   (M : pt_M) : Prop :=
  Q (-1) M
def lbX2_search_103 (k1 : Nat) (p2 : Int32) (p3 : Int32) (p4 : Int32) (Q : Int32 → pt_M → Prop) (R60 : Int32 → pt_M → Prop) (R103 : Int32 → Int32 → pt_M → Prop) (x5 : Int32) (x6 : Int32) (M : pt_M) : Prop :=
  (10 < x6 → ∀ x5_173 : Int32, x5_173 = x5 + 1 → R60 x5_173 M) ∧ (¬ 10 < x6 → vp_in x5 60 ∧ (wpX4_copyFrom (133 + 1) (pt_q x5) M (fun (M_124 : pt_M) => wpX3_proceed 133 x6 M_124 (fun (r_133 : Int32) (M_133 : pt_M) => wpX2_isReached p2 p3 M_133 (fun (r_140 : Int32) (M_140 : pt_M) => (r_140 = 0 → wpX2_keepIfNew x5 x6 M_140 (fun (M_164 : pt_M) => ∀ x6_167 : Int32, x6_167 = x6 + 1 → R103 x5 x6_167 M_164)) ∧ (¬ r_140 = 0 → wpX2_writeRow x5 x6 M_140 (fun (M_151 : pt_M) => Q (M_151 141 1) M_151)))))))
def lpX2_search_103 (k1 : Nat) (p2 : Int32) (p3 : Int32) (p4 : Int32) (Q : Int32 → pt_M → Prop) (R60 : Int32 → pt_M → Prop) : Nat → Int32 → Int32 → pt_M → Prop
  | 0 => fun _ _ _ => False
  | n + 1 => fun x5 x6 M => lbX2_search_103 k1 p2 p3 p4 Q R60 (lpX2_search_103 k1 p2 p3 p4 Q R60 n) x5 x6 M
def lbX2_search_60 (k1 : Nat) (p2 : Int32) (p3 : Int32) (p4 : Int32) (Q : Int32 → pt_M → Prop)  (R60 : Int32 → pt_M → Prop) (x5 : Int32) (M : pt_M) : Prop :=
  ((M 141 8) ≤ x5 → wjX2_search_179 k1 p2 p3 p4 Q M) ∧ (¬ (M 141 8) ≤ x5 → (60 ≤ x5 → wjX2_search_179 k1 p2 p3 p4 Q M) ∧ (¬ 60 ≤ x5 → vp_in x5 60 ∧ (((M 146 (Int32.toNatClampNeg x5)) < p4 → ∀ M_97 : pt_M, M_97 = pt_st M 141 2 ((M 141 2) + 1) → ∃ n : Nat, lpX2_search_103 k1 p2 p3 p4 Q R60 n x5 0 M_97) ∧ (¬ (M 146 (Int32.toNatClampNeg x5)) < p4 → Q (-1) M))))
def lpX2_search_60 (k1 : Nat) (p2 : Int32) (p3 : Int32) (p4 : Int32) (Q : Int32 → pt_M → Prop)  : Nat → Int32 → pt_M → Prop
  | 0 => fun _ _ => False
  | n + 1 => fun x5 M => lbX2_search_60 k1 p2 p3 p4 Q (lpX2_search_60 k1 p2 p3 p4 Q n) x5 M
def wjX2_search_28 (k1 : Nat) (p2 : Int32) (p3 : Int32) (p4 : Int32) (Q : Int32 → pt_M → Prop)   (M : pt_M) : Prop :=
  vp_in 0 60 ∧ (wpX4_copyFrom (pt_q 0) k1 M (fun (M_35 : pt_M) => vp_in 0 60 ∧ ∀ M_44 : pt_M, M_44 = pt_st M_35 144 (Int32.toNatClampNeg 0) (-1) → vp_in 0 60 ∧ ∀ M_51 : pt_M, M_51 = pt_st M_44 146 (Int32.toNatClampNeg 0) 0 → ∀ M_54 : pt_M, M_54 = pt_st M_51 141 8 1 → ∃ n : Nat, lpX2_search_60 k1 p2 p3 p4 Q n 0 M_54))
def wpX2_search (k1 : Nat) (p2 : Int32) (p3 : Int32) (p4 : Int32) (M : pt_M) (Q : Int32 → pt_M → Prop) : Prop :=
  ∀ M_2 : pt_M, M_2 = pt_st M 141 1 0 → ∀ M_7 : pt_M, M_7 = pt_st M_2 141 2 0 → (p2 = (-1) → wjX2_search_28 k1 p2 p3 p4 Q M_7) ∧ (¬ p2 = (-1) → wpX7_has (M_7 k1 3) p2 M_7 (fun (r_20 : Int32) (M_20 : pt_M) => (r_20 = 0 → wjX2_search_28 k1 p2 p3 p4 Q M_20) ∧ (¬ r_20 = 0 → Q 0 M_20)))
set_option maxHeartbeats 4000000 in
set_option maxRecDepth 100000 in
theorem mtX2_search (l : Launch) (D : va_G) (cA : Nat → ClassId) (ad : Nat → Nat) (hI : pt_I ad) (sz : Nat) (k1 : Nat) (hk1 : pt_kd k1 = 4) (p2 : Int32) (p3 : Int32) (p4 : Int32) (M : pt_M) (Q : Int32 → pt_M → Prop) (hw : wpX2_search k1 p2 p3 p4 M Q) : Met l yX2_search (Cond.code yX2_search cX2_search 7 (some .int) :: lw_all) ({ frames := 6, cells := 0, slots := 0, locals := 141 } : Room) (va_Pc [.ref (ad 141), .ref (ad k1), .int p2, .int p3, .int p4] (pt_P D cA ad sz M)) (va_Qi Q (pt_B D cA ad) (pt_fr ad sz)) 0 0 (pt_fr ad sz) := by
  refine Met.ofW (cc := cX2_search) (maxL := 7) (ret := (some .int)) (by decide) rfl ?_
  intro p e s m args below meth c s₁ B hml hv
  obtain ⟨rfl, hsz, hP, hK⟩ := hv
  have hx := B.exec
  have hb := B.bytes
  have hr := B.returns
  have hts0 := atoms_spec (ws := (Cond.code yX2_search cX2_search 7 (some .int) :: lw_all)) B.pre
  have hown : s.vm.findClass RX2 = some m.cls := findClass_of_methodNamed B.named
  have hlocks := B.notSynchronized
  subst hsz
  have F : pt_F p m c cX2_search 7 s _ RX2 D cA := ⟨⟨hx, hb, hml, hown, fun w h => hts0 w (List.mem_cons_of_mem _ h)⟩, hK⟩
  have hD : ∀ M, va_D (pt_fr ad s.heap.size) (pt_W cA ad M) := pt_D hI (fun k h => Or.inl ⟨k, h, rfl⟩)
  have hS : va_S (pt_fr ad s.heap.size) s.heap s.heap [] := va_S.rf
  have hl := lv_entry ([.ref (ad 141), .ref (ad k1), .int p2, .int p3, .int p4]) (n := 7) (Nat.le_of_ble_eq_true rfl)
  rw [lg_entry_eq]
  generalize (lg_sl ([.ref (ad 141), .ref (ad k1), .int p2, .int p3, .int p4]) ++ List.replicate (7 - (lg_sl ([.ref (ad 141), .ref (ad k1), .int p2, .int p3, .int p4])).length) Slot.unset).toArray = ls at hl ⊢
  have hl : lv_has ls 7 [(0, .ref (ad 141)), (1, .ref (ad k1)), (2, .int p2), (3, .int p3), (4, .int p4)] := hl
  have J179 : ∀ (M : pt_M) (H : Heap) (locs : List Loc) (ls : Array Slot), wjX2_search_179 k1 p2 p3 p4 Q M → va_P D pt_cl (pt_W cA ad M) H → va_S (pt_fr ad s.heap.size) s.heap H locs → lv_has ls 7 [] → W p l e (headSpec (Cond.code yX2_search cX2_search 7 (some .int) :: lw_all) ({ frames := 6, cells := 0, slots := 0, locals := 141 } : Room)).room s m ([.ref (ad 141), .ref (ad k1), .int p2, .int p3, .int p4] : List Value).toArray below meth c H locs 0 0 (MQ below (va_Qi Q (pt_B D cA ad) (pt_fr ad s.heap.size)) ([.ref (ad 141), .ref (ad k1), .int p2, .int p3, .int p4] : List Value).toArray s 0 0 (pt_fr ad s.heap.size)) (F0 m 179 ls []) := by
    intro M H locs ls hw hP hS hl
    unfold wjX2_search_179 at hw
    refine lv_iconst (v := (-1)) hx hb dX2_search_179 (by decide) ?_
    exact W.iret (v := (-1)) hx hb hr (fun t ht hW => ⟨⟨(-1), M, rfl, hw, by unfold pt_B; rw [ht]; exact hP⟩, hS.F ht⟩) hS.2.2 dX2_search_180
  have L60 : ∀ (n60 : Nat) (x5 : Int32) (M : pt_M) (H : Heap) (locs : List Loc) (ls : Array Slot), lpX2_search_60 k1 p2 p3 p4 Q n60 x5 M → va_P D pt_cl (pt_W cA ad M) H → va_S (pt_fr ad s.heap.size) s.heap H locs → lv_has ls 7 [(0, .ref (ad 141)), (2, .int p2), (3, .int p3), (4, .int p4), (5, .int x5)] → W p l e (headSpec (Cond.code yX2_search cX2_search 7 (some .int) :: lw_all) ({ frames := 6, cells := 0, slots := 0, locals := 141 } : Room)).room s m ([.ref (ad 141), .ref (ad k1), .int p2, .int p3, .int p4] : List Value).toArray below meth c H locs 0 0 (MQ below (va_Qi Q (pt_B D cA ad) (pt_fr ad s.heap.size)) ([.ref (ad 141), .ref (ad k1), .int p2, .int p3, .int p4] : List Value).toArray s 0 0 (pt_fr ad s.heap.size)) (F0 m 60 ls []) := by
    intro n60
    induction n60 with
    | zero => intro x5 M H locs ls hw; exact hw.elim
    | succ n60 ih60 =>
      have L103 : ∀ (n103 : Nat) (x5 : Int32) (x6 : Int32) (M : pt_M) (H : Heap) (locs : List Loc) (ls : Array Slot), lpX2_search_103 k1 p2 p3 p4 Q (lpX2_search_60 k1 p2 p3 p4 Q n60) n103 x5 x6 M → va_P D pt_cl (pt_W cA ad M) H → va_S (pt_fr ad s.heap.size) s.heap H locs → lv_has ls 7 [(0, .ref (ad 141)), (2, .int p2), (3, .int p3), (4, .int p4), (5, .int x5), (6, .int x6)] → W p l e (headSpec (Cond.code yX2_search cX2_search 7 (some .int) :: lw_all) ({ frames := 6, cells := 0, slots := 0, locals := 141 } : Room)).room s m ([.ref (ad 141), .ref (ad k1), .int p2, .int p3, .int p4] : List Value).toArray below meth c H locs 0 0 (MQ below (va_Qi Q (pt_B D cA ad) (pt_fr ad s.heap.size)) ([.ref (ad 141), .ref (ad k1), .int p2, .int p3, .int p4] : List Value).toArray s 0 0 (pt_fr ad s.heap.size)) (F0 m 103 ls []) := by
        intro n103
        induction n103 with
        | zero => intro x5 x6 M H locs ls hw; exact hw.elim
        | succ n103 ih103 =>
          intro x5 x6 M H locs ls hw hP hS hl
          replace hw : lbX2_search_103 k1 p2 p3 p4 Q (lpX2_search_60 k1 p2 p3 p4 Q n60) (lpX2_search_103 k1 p2 p3 p4 Q (lpX2_search_60 k1 p2 p3 p4 Q n60) n103) x5 x6 M := hw
          unfold lbX2_search_103 at hw
          refine lv_iload hx hb dX2_search_103 (lv_at hl 5 rfl) ?_
          refine lv_bipush (v := 10) hx hb dX2_search_105 (by decide) ?_
          refine lv_icmp_gt (tgt := 173) hx hb dX2_search_107 (by decide) (fun hc107 => ?_) (fun hc107 => ?_)
          · replace hw := hw.1 hc107
            obtain ⟨x5_173, ex5_173⟩ : ∃ y : Int32, y = x5 + 1 := ⟨_, rfl⟩
            replace hw := hw x5_173 ex5_173
            refine lv_iinc (v := x5_173) (lv' := [(5, .int x5_173), (0, .ref (ad 141)), (2, .int p2), (3, .int p3), (4, .int p4), (6, .int x6)]) hx hb dX2_search_173 hl (k := 4) rfl (by rw [ex5_173]; rfl) (by decide) rfl (fun ls hl => ?_)
            refine lv_goto (tgt := 60) hx hb dX2_search_176 (by decide) ?_
            exact ih60 x5_173 M _ _ _ hw hP hS (lv_sub hl [1, 2, 3, 4, 0] rfl)
          · replace hw := hw.2 hc107
            refine lv_aload_n hx hb dX2_search_110 rfl (lv_at hl 0 rfl) ?_
            refine pt_get F hP (pt_c2 _ pt_k141) (pt_l2 pt_k141) inX2 rfl 3 (by decide) kw_345 rfl rfl dX2_search_111 ?_
            refine pt_get F hP (pt_c3 _ pt_k133) (pt_l3 pt_k133) inX3 rfl 1 (by decide) kw_291 rfl rfl dX2_search_114 ?_
            refine lv_aload_n hx hb dX2_search_117 rfl (lv_at hl 0 rfl) ?_
            refine pt_get F hP (pt_c2 _ pt_k141) (pt_l2 pt_k141) inX2 rfl 4 (by decide) kw_346 rfl rfl dX2_search_118 ?_
            refine lv_iload hx hb dX2_search_121 (lv_at hl 4 rfl) ?_
            have hv123 := hw.1
            replace hw := hw.2
            refine pt_aldq F hP hv123 dX2_search_123 ?_
            refine pt_callv (pt_runV (n := 1) (As := [.ref (ad (pt_q x5))]) (rest := []) F hP (pt_c4 _ (pt_3s pt_k133)) (pt_l4 (pt_3s pt_k133)) rfl (mtX4_copyFrom l D cA ad hI _ (133 + 1) (pt_3s pt_k133) (pt_q x5) (pt_kq hv123) M _ hw) kw_887 kw_921 kw_58 kw_885 kw_886 ⟨by decide, by decide, by decide +kernel⟩ ⟨rfl, rfl, Nat.le_of_ble_eq_true rfl, Nat.le_of_ble_eq_true rfl⟩ rfl hl.1 rfl (Nat.le_of_ble_eq_true rfl) dX2_search_124 ⟨Nat.zero_le _, Nat.zero_le _⟩) hS (fun _ h => h) (fun M_124 H locs hw hP hS _ _ => ?_)
            refine lv_aload_n hx hb dX2_search_127 rfl (lv_at hl 0 rfl) ?_
            refine pt_get F hP (pt_c2 _ pt_k141) (pt_l2 pt_k141) inX2 rfl 3 (by decide) kw_345 rfl rfl dX2_search_128 ?_
            refine lv_iload hx hb dX2_search_131 (lv_at hl 5 rfl) ?_
            refine pt_calli (pt_runV (n := 1) (As := [.int x6]) (rest := []) F hP (pt_c3 _ pt_k133) (pt_l3 pt_k133) rfl (mtX3_proceed l D cA ad hI _ 133 pt_k133 x6 M_124 _ hw) kw_747 kw_922 kw_57 kw_745 kw_746 ⟨by decide, by decide, by decide +kernel⟩ ⟨rfl, rfl, Nat.le_of_ble_eq_true rfl, Nat.le_of_ble_eq_true rfl⟩ rfl hl.1 rfl (Nat.le_of_ble_eq_true rfl) dX2_search_133 ⟨Nat.zero_le _, Nat.zero_le _⟩) hS (fun _ h => h) (fun r_133 M_133 H locs hw hP hS _ _ => ?_)
            refine lv_pop hx hb dX2_search_136 rfl ?_
            refine lv_aload_n hx hb dX2_search_137 rfl (lv_at hl 0 rfl) ?_
            refine lv_iload_n hx hb dX2_search_138 rfl (lv_at hl 1 rfl) ?_
            refine lv_iload_n hx hb dX2_search_139 rfl (lv_at hl 2 rfl) ?_
            refine pt_calli (pt_runV (n := 2) (As := [.int p2, .int p3]) (rest := []) F hP (pt_c2 _ pt_k141) (pt_l2 pt_k141) rfl (mtX2_isReached l D cA ad hI _ p2 p3 M_133 _ hw) kw_926 kw_923 kw_59 kw_925 kw_22 ⟨by decide, by decide, by decide +kernel⟩ ⟨rfl, rfl, Nat.le_of_ble_eq_true rfl, Nat.le_of_ble_eq_true rfl⟩ rfl hl.1 rfl (Nat.le_of_ble_eq_true rfl) dX2_search_140 ⟨Nat.zero_le _, Nat.zero_le _⟩) hS (fun _ h => h) (fun r_140 M_140 H locs hw hP hS _ _ => ?_)
            refine lv_if_eq (tgt := 159) hx hb dX2_search_143 (by decide) (fun hc143 => ?_) (fun hc143 => ?_)
            · replace hw := hw.1 hc143
              refine lv_aload_n hx hb dX2_search_159 rfl (lv_at hl 0 rfl) ?_
              refine lv_iload hx hb dX2_search_160 (lv_at hl 4 rfl) ?_
              refine lv_iload hx hb dX2_search_162 (lv_at hl 5 rfl) ?_
              refine pt_callv (pt_runV (n := 2) (As := [.int x5, .int x6]) (rest := []) F hP (pt_c2 _ pt_k141) (pt_l2 pt_k141) rfl (mtX2_keepIfNew l D cA ad hI _ x5 x6 M_140 _ hw) kw_934 kw_931 kw_59 kw_933 kw_24 ⟨by decide, by decide, by decide +kernel⟩ ⟨rfl, rfl, Nat.le_of_ble_eq_true rfl, Nat.le_of_ble_eq_true rfl⟩ rfl hl.1 rfl (Nat.le_of_ble_eq_true rfl) dX2_search_164 ⟨Nat.zero_le _, Nat.zero_le _⟩) hS (fun _ h => h) (fun M_164 H locs hw hP hS _ _ => ?_)
              obtain ⟨x6_167, ex6_167⟩ : ∃ y : Int32, y = x6 + 1 := ⟨_, rfl⟩
              replace hw := hw x6_167 ex6_167
              refine lv_iinc (v := x6_167) (lv' := [(6, .int x6_167), (0, .ref (ad 141)), (2, .int p2), (3, .int p3), (4, .int p4), (5, .int x5)]) hx hb dX2_search_167 hl (k := 5) rfl (by rw [ex6_167]; rfl) (by decide) rfl (fun ls hl => ?_)
              refine lv_goto (tgt := 103) hx hb dX2_search_170 (by decide) ?_
              exact ih103 x5 x6_167 M_164 _ _ _ hw hP hS (lv_sub hl [1, 2, 3, 4, 5, 0] rfl)
            · replace hw := hw.2 hc143
              refine lv_aload_n hx hb dX2_search_146 rfl (lv_at hl 0 rfl) ?_
              refine lv_iload hx hb dX2_search_147 (lv_at hl 4 rfl) ?_
              refine lv_iload hx hb dX2_search_149 (lv_at hl 5 rfl) ?_
              refine pt_callv (pt_runV (n := 2) (As := [.int x5, .int x6]) (rest := []) F hP (pt_c2 _ pt_k141) (pt_l2 pt_k141) rfl (mtX2_writeRow l D cA ad hI _ x5 x6 M_140 _ hw) kw_930 kw_927 kw_59 kw_929 kw_23 ⟨by decide, by decide, by decide +kernel⟩ ⟨rfl, rfl, Nat.le_of_ble_eq_true rfl, Nat.le_of_ble_eq_true rfl⟩ rfl hl.1 rfl (Nat.le_of_ble_eq_true rfl) dX2_search_151 ⟨Nat.zero_le _, Nat.zero_le _⟩) hS (fun _ h => h) (fun M_151 H locs hw hP hS _ _ => ?_)
              refine lv_aload_n hx hb dX2_search_154 rfl (lv_at hl 0 rfl) ?_
              refine pt_get F hP (pt_c2 _ pt_k141) (pt_l2 pt_k141) inX2 rfl 1 (by decide) kw_341 rfl rfl dX2_search_155 ?_
              exact W.iret (v := (M_151 141 1)) hx hb hr (fun t ht hW => ⟨⟨(M_151 141 1), M_151, rfl, hw, by unfold pt_B; rw [ht]; exact hP⟩, hS.F ht⟩) hS.2.2 dX2_search_158
      intro x5 M H locs ls hw hP hS hl
      replace hw : lbX2_search_60 k1 p2 p3 p4 Q (lpX2_search_60 k1 p2 p3 p4 Q n60) x5 M := hw
      unfold lbX2_search_60 at hw
      refine lv_iload hx hb dX2_search_60 (lv_at hl 4 rfl) ?_
      refine lv_aload_n hx hb dX2_search_62 rfl (lv_at hl 0 rfl) ?_
      refine pt_get F hP (pt_c2 _ pt_k141) (pt_l2 pt_k141) inX2 rfl 8 (by decide) kw_350 rfl rfl dX2_search_63 ?_
      refine lv_icmp_ge (tgt := 179) hx hb dX2_search_66 (by decide) (fun hc66 => ?_) (fun hc66 => ?_)
      · replace hw := hw.1 hc66
        exact J179 M _ _ _ hw hP hS (lv_sub hl [] rfl)
      · replace hw := hw.2 hc66
        refine lv_iload hx hb dX2_search_69 (lv_at hl 4 rfl) ?_
        refine lv_bipush (v := 60) hx hb dX2_search_71 (by decide) ?_
        refine lv_icmp_ge (tgt := 179) hx hb dX2_search_73 (by decide) (fun hc73 => ?_) (fun hc73 => ?_)
        · replace hw := hw.1 hc73
          exact J179 M _ _ _ hw hP hS (lv_sub hl [] rfl)
        · replace hw := hw.2 hc73
          refine lv_aload_n hx hb dX2_search_76 rfl (lv_at hl 0 rfl) ?_
          refine pt_get F hP (pt_c2 _ pt_k141) (pt_l2 pt_k141) inX2 rfl 7 (by decide) kw_349 rfl rfl dX2_search_77 ?_
          refine lv_iload hx hb dX2_search_80 (lv_at hl 4 rfl) ?_
          have hv82 := hw.1
          replace hw := hw.2
          refine pt_iald F hP pt_a146 hv82 dX2_search_82 ?_
          refine lv_iload hx hb dX2_search_83 (lv_at hl 3 rfl) ?_
          refine lv_icmp_lt (tgt := 90) hx hb dX2_search_85 (by decide) (fun hc85 => ?_) (fun hc85 => ?_)
          · replace hw := hw.1 hc85
            refine lv_aload_n hx hb dX2_search_90 rfl (lv_at hl 0 rfl) ?_
            refine lv_dup hx hb dX2_search_91 rfl ?_
            refine pt_get F hP (pt_c2 _ pt_k141) (pt_l2 pt_k141) inX2 rfl 2 (by decide) kw_343 rfl rfl dX2_search_92 ?_
            refine lv_iconst (v := 1) hx hb dX2_search_95 (by decide) ?_
            refine lv_iadd hx hb dX2_search_96 ?_
            refine pt_put F hP hD hS (pt_c2 _ pt_k141) (pt_l2 pt_k141) inX2 tyX2 tyX2_ok nmX2 rfl 2 (by decide) kw_343 rfl rfl rfl rfl (Nat.le_of_ble_eq_true rfl) (pt_c2 _ pt_k141) dX2_search_97 (fun M_97 H locs eM_97 hP hS => ?_)
            replace hw := hw M_97 eM_97
            refine lv_iconst (v := 0) hx hb dX2_search_100 (by decide) ?_
            refine lv_istore (lv' := [(6, .int 0), (0, .ref (ad 141)), (2, .int p2), (3, .int p3), (4, .int p4), (5, .int x5)]) hx hb dX2_search_101 hl (by decide) rfl (fun ls hl => ?_)
            obtain ⟨n_, hw⟩ := hw
            exact L103 n_ x5 0 M_97 _ _ _ hw hP hS (lv_sub hl [1, 2, 3, 4, 5, 0] rfl)
          · replace hw := hw.2 hc85
            refine lv_iconst (v := (-1)) hx hb dX2_search_88 (by decide) ?_
            exact W.iret (v := (-1)) hx hb hr (fun t ht hW => ⟨⟨(-1), M, rfl, hw, by unfold pt_B; rw [ht]; exact hP⟩, hS.F ht⟩) hS.2.2 dX2_search_89
  have J28 : ∀ (M : pt_M) (H : Heap) (locs : List Loc) (ls : Array Slot), wjX2_search_28 k1 p2 p3 p4 Q M → va_P D pt_cl (pt_W cA ad M) H → va_S (pt_fr ad s.heap.size) s.heap H locs → lv_has ls 7 [(0, .ref (ad 141)), (1, .ref (ad k1)), (2, .int p2), (3, .int p3), (4, .int p4)] → W p l e (headSpec (Cond.code yX2_search cX2_search 7 (some .int) :: lw_all) ({ frames := 6, cells := 0, slots := 0, locals := 141 } : Room)).room s m ([.ref (ad 141), .ref (ad k1), .int p2, .int p3, .int p4] : List Value).toArray below meth c H locs 0 0 (MQ below (va_Qi Q (pt_B D cA ad) (pt_fr ad s.heap.size)) ([.ref (ad 141), .ref (ad k1), .int p2, .int p3, .int p4] : List Value).toArray s 0 0 (pt_fr ad s.heap.size)) (F0 m 28 ls []) := by
    intro M H locs ls hw hP hS hl
    unfold wjX2_search_28 at hw
    refine lv_aload_n hx hb dX2_search_28 rfl (lv_at hl 0 rfl) ?_
    refine pt_get F hP (pt_c2 _ pt_k141) (pt_l2 pt_k141) inX2 rfl 4 (by decide) kw_346 rfl rfl dX2_search_29 ?_
    refine lv_iconst (v := 0) hx hb dX2_search_32 (by decide) ?_
    have hv33 := hw.1
    replace hw := hw.2
    refine pt_aldq F hP hv33 dX2_search_33 ?_
    refine lv_aload_n hx hb dX2_search_34 rfl (lv_at hl 1 rfl) ?_
    refine pt_callv (pt_runV (n := 1) (As := [.ref (ad k1)]) (rest := []) F hP (pt_c4 _ (pt_kq hv33)) (pt_l4 (pt_kq hv33)) rfl (mtX4_copyFrom l D cA ad hI _ (pt_q 0) (pt_kq hv33) k1 hk1 M _ hw) kw_887 kw_921 kw_58 kw_885 kw_886 ⟨by decide, by decide, by decide +kernel⟩ ⟨rfl, rfl, Nat.le_of_ble_eq_true rfl, Nat.le_of_ble_eq_true rfl⟩ rfl hl.1 rfl (Nat.le_of_ble_eq_true rfl) dX2_search_35 ⟨Nat.zero_le _, Nat.zero_le _⟩) hS (fun _ h => h) (fun M_35 H locs hw hP hS _ _ => ?_)
    refine lv_aload_n hx hb dX2_search_38 rfl (lv_at hl 0 rfl) ?_
    refine pt_get F hP (pt_c2 _ pt_k141) (pt_l2 pt_k141) inX2 rfl 5 (by decide) kw_347 rfl rfl dX2_search_39 ?_
    refine lv_iconst (v := 0) hx hb dX2_search_42 (by decide) ?_
    refine lv_iconst (v := (-1)) hx hb dX2_search_43 (by decide) ?_
    have hv44 := hw.1
    replace hw := hw.2
    refine pt_iast F hP hD hS pt_a144 hv44 dX2_search_44 (fun M_44 H locs eM_44 hP hS => ?_)
    replace hw := hw M_44 eM_44
    refine lv_aload_n hx hb dX2_search_45 rfl (lv_at hl 0 rfl) ?_
    refine pt_get F hP (pt_c2 _ pt_k141) (pt_l2 pt_k141) inX2 rfl 7 (by decide) kw_349 rfl rfl dX2_search_46 ?_
    refine lv_iconst (v := 0) hx hb dX2_search_49 (by decide) ?_
    refine lv_iconst (v := 0) hx hb dX2_search_50 (by decide) ?_
    have hv51 := hw.1
    replace hw := hw.2
    refine pt_iast F hP hD hS pt_a146 hv51 dX2_search_51 (fun M_51 H locs eM_51 hP hS => ?_)
    replace hw := hw M_51 eM_51
    refine lv_aload_n hx hb dX2_search_52 rfl (lv_at hl 0 rfl) ?_
    refine lv_iconst (v := 1) hx hb dX2_search_53 (by decide) ?_
    refine pt_put F hP hD hS (pt_c2 _ pt_k141) (pt_l2 pt_k141) inX2 tyX2 tyX2_ok nmX2 rfl 8 (by decide) kw_350 rfl rfl rfl rfl (Nat.le_of_ble_eq_true rfl) (pt_c2 _ pt_k141) dX2_search_54 (fun M_54 H locs eM_54 hP hS => ?_)
    replace hw := hw M_54 eM_54
    refine lv_iconst (v := 0) hx hb dX2_search_57 (by decide) ?_
    refine lv_istore (lv' := [(5, .int 0), (0, .ref (ad 141)), (1, .ref (ad k1)), (2, .int p2), (3, .int p3), (4, .int p4)]) hx hb dX2_search_58 hl (by decide) rfl (fun ls hl => ?_)
    obtain ⟨n_, hw⟩ := hw
    exact L60 n_ 0 M_54 _ _ _ hw hP hS (lv_sub hl [1, 3, 4, 5, 0] rfl)
  unfold wpX2_search at hw
  refine lv_aload_n hx hb dX2_search_0 rfl (lv_at hl 0 rfl) ?_
  refine lv_iconst (v := 0) hx hb dX2_search_1 (by decide) ?_
  refine pt_put F hP hD hS (pt_c2 _ pt_k141) (pt_l2 pt_k141) inX2 tyX2 tyX2_ok nmX2 rfl 1 (by decide) kw_341 rfl rfl rfl rfl (Nat.le_of_ble_eq_true rfl) (pt_c2 _ pt_k141) dX2_search_2 (fun M_2 H locs eM_2 hP hS => ?_)
  replace hw := hw M_2 eM_2
  refine lv_aload_n hx hb dX2_search_5 rfl (lv_at hl 0 rfl) ?_
  refine lv_iconst (v := 0) hx hb dX2_search_6 (by decide) ?_
  refine pt_put F hP hD hS (pt_c2 _ pt_k141) (pt_l2 pt_k141) inX2 tyX2 tyX2_ok nmX2 rfl 2 (by decide) kw_343 rfl rfl rfl rfl (Nat.le_of_ble_eq_true rfl) (pt_c2 _ pt_k141) dX2_search_7 (fun M_7 H locs eM_7 hP hS => ?_)
  replace hw := hw M_7 eM_7
  refine lv_iload_n hx hb dX2_search_10 rfl (lv_at hl 2 rfl) ?_
  refine lv_iconst (v := (-1)) hx hb dX2_search_11 (by decide) ?_
  refine lv_icmp_eq (tgt := 28) hx hb dX2_search_12 (by decide) (fun hc12 => ?_) (fun hc12 => ?_)
  · replace hw := hw.1 hc12
    exact J28 M_7 _ _ _ hw hP hS (lv_sub hl [0, 1, 2, 3, 4] rfl)
  · replace hw := hw.2 hc12
    refine lv_aload_n hx hb dX2_search_15 rfl (lv_at hl 1 rfl) ?_
    refine pt_get F hP (pt_c4 _ hk1) (pt_l4 hk1) inX4 rfl 3 (by decide) kw_277 rfl rfl dX2_search_16 ?_
    refine lv_iload_n hx hb dX2_search_19 rfl (lv_at hl 2 rfl) ?_
    refine pt_calli (pt_runSN (n := 2) (As := [.int (M_7 k1 3), .int p2]) (rest := []) F hP (mtX7_has l D cA ad hI _ (M_7 k1 3) p2 M_7 _ hw) kw_449 kw_920 kw_52 kw_448 ⟨by decide, by decide, by decide +kernel⟩ ⟨rfl, rfl, Nat.le_of_ble_eq_true rfl, Nat.le_of_ble_eq_true rfl⟩ rfl hl.1 rfl (Nat.le_of_ble_eq_true rfl) dX2_search_20 ⟨Nat.zero_le _, Nat.zero_le _⟩) hS (fun _ h => h) (fun r_20 M_20 H locs hw hP hS _ _ => ?_)
    refine lv_if_eq (tgt := 28) hx hb dX2_search_23 (by decide) (fun hc23 => ?_) (fun hc23 => ?_)
    · replace hw := hw.1 hc23
      exact J28 M_20 _ _ _ hw hP hS (lv_sub hl [0, 1, 2, 3, 4] rfl)
    · replace hw := hw.2 hc23
      refine lv_iconst (v := 0) hx hb dX2_search_26 (by decide) ?_
      exact W.iret (v := 0) hx hb hr (fun t ht hW => ⟨⟨0, M_20, rfl, hw, by unfold pt_B; rw [ht]; exact hP⟩, hS.F ht⟩) hS.2.2 dX2_search_27
-- ===== X7_checkResting
def wpX7_checkResting  (M : pt_M) (Q : pt_M → Prop) : Prop :=
  ((M 0 4) = 0 → Q M) ∧ (¬ (M 0 4) = 0 → False)
set_option maxHeartbeats 4000000 in
set_option maxRecDepth 100000 in
theorem mtX7_checkResting (l : Launch) (D : va_G) (cA : Nat → ClassId) (ad : Nat → Nat) (hI : pt_I ad) (sz : Nat) (M : pt_M) (Q : pt_M → Prop) (hw : wpX7_checkResting M Q) : Met l yX7_checkResting (Cond.code yX7_checkResting cX7_checkResting 1 none :: lw_all) ({ frames := 0, cells := 0, slots := 0, locals := 0 } : Room) (va_Pc [.ref (ad 0)] (pt_P D cA ad sz M)) (va_Qv Q (pt_B D cA ad) (pt_fr ad sz)) 0 0 (pt_fr ad sz) := by
  refine Met.ofW (cc := cX7_checkResting) (maxL := 1) (ret := none) (by decide) rfl ?_
  intro p e s m args below meth c s₁ B hml hv
  obtain ⟨rfl, hsz, hP, hK⟩ := hv
  have hx := B.exec
  have hb := B.bytes
  have hr := B.returns
  have hts0 := atoms_spec (ws := (Cond.code yX7_checkResting cX7_checkResting 1 none :: lw_all)) B.pre
  have hown : s.vm.findClass RX7 = some m.cls := findClass_of_methodNamed B.named
  have hlocks := B.notSynchronized
  subst hsz
  have F : pt_F p m c cX7_checkResting 1 s _ RX7 D cA := ⟨⟨hx, hb, hml, hown, fun w h => hts0 w (List.mem_cons_of_mem _ h)⟩, hK⟩
  have hD : ∀ M, va_D (pt_fr ad s.heap.size) (pt_W cA ad M) := pt_D hI (fun k h => Or.inl ⟨k, h, rfl⟩)
  have hS : va_S (pt_fr ad s.heap.size) s.heap s.heap [] := va_S.rf
  have hl := lv_entry ([.ref (ad 0)]) (n := 1) (Nat.le_of_ble_eq_true rfl)
  rw [lg_entry_eq]
  generalize (lg_sl ([.ref (ad 0)]) ++ List.replicate (1 - (lg_sl ([.ref (ad 0)])).length) Slot.unset).toArray = ls at hl ⊢
  have hl : lv_has ls 1 [(0, .ref (ad 0))] := hl
  unfold wpX7_checkResting at hw
  refine lv_aload_n hx hb dX7_checkResting_0 rfl (lv_at hl 0 rfl) ?_
  refine pt_get F hP (pt_c7 _ pt_k0) (pt_l7 pt_k0) inX7 rfl 4 (by decide) kw_374 rfl rfl dX7_checkResting_1 ?_
  refine lv_if_eq (tgt := 15) hx hb dX7_checkResting_4 (by decide) (fun hc4 => ?_) (fun hc4 => ?_)
  · replace hw := hw.1 hc4
    exact W.vret hx hb hr (fun t ht hW => ⟨⟨M, rfl, hw, by unfold pt_B; rw [ht]; exact hP⟩, hS.F ht⟩) hS.2.2 dX7_checkResting_15
  · replace hw := hw.2 hc4
    exact hw.elim
-- ===== X7_checkRunning
def wpX7_checkRunning  (M : pt_M) (Q : pt_M → Prop) : Prop :=
  (¬ (M 0 4) = 0 → Q M) ∧ ((M 0 4) = 0 → False)
set_option maxHeartbeats 4000000 in
set_option maxRecDepth 100000 in
theorem mtX7_checkRunning (l : Launch) (D : va_G) (cA : Nat → ClassId) (ad : Nat → Nat) (hI : pt_I ad) (sz : Nat) (M : pt_M) (Q : pt_M → Prop) (hw : wpX7_checkRunning M Q) : Met l yX7_checkRunning (Cond.code yX7_checkRunning cX7_checkRunning 1 none :: lw_all) ({ frames := 0, cells := 0, slots := 0, locals := 0 } : Room) (va_Pc [.ref (ad 0)] (pt_P D cA ad sz M)) (va_Qv Q (pt_B D cA ad) (pt_fr ad sz)) 0 0 (pt_fr ad sz) := by
  refine Met.ofW (cc := cX7_checkRunning) (maxL := 1) (ret := none) (by decide) rfl ?_
  intro p e s m args below meth c s₁ B hml hv
  obtain ⟨rfl, hsz, hP, hK⟩ := hv
  have hx := B.exec
  have hb := B.bytes
  have hr := B.returns
  have hts0 := atoms_spec (ws := (Cond.code yX7_checkRunning cX7_checkRunning 1 none :: lw_all)) B.pre
  have hown : s.vm.findClass RX7 = some m.cls := findClass_of_methodNamed B.named
  have hlocks := B.notSynchronized
  subst hsz
  have F : pt_F p m c cX7_checkRunning 1 s _ RX7 D cA := ⟨⟨hx, hb, hml, hown, fun w h => hts0 w (List.mem_cons_of_mem _ h)⟩, hK⟩
  have hD : ∀ M, va_D (pt_fr ad s.heap.size) (pt_W cA ad M) := pt_D hI (fun k h => Or.inl ⟨k, h, rfl⟩)
  have hS : va_S (pt_fr ad s.heap.size) s.heap s.heap [] := va_S.rf
  have hl := lv_entry ([.ref (ad 0)]) (n := 1) (Nat.le_of_ble_eq_true rfl)
  rw [lg_entry_eq]
  generalize (lg_sl ([.ref (ad 0)]) ++ List.replicate (1 - (lg_sl ([.ref (ad 0)])).length) Slot.unset).toArray = ls at hl ⊢
  have hl : lv_has ls 1 [(0, .ref (ad 0))] := hl
  unfold wpX7_checkRunning at hw
  refine lv_aload_n hx hb dX7_checkRunning_0 rfl (lv_at hl 0 rfl) ?_
  refine pt_get F hP (pt_c7 _ pt_k0) (pt_l7 pt_k0) inX7 rfl 4 (by decide) kw_374 rfl rfl dX7_checkRunning_1 ?_
  refine lv_if_ne (tgt := 15) hx hb dX7_checkRunning_4 (by decide) (fun hc4 => ?_) (fun hc4 => ?_)
  · replace hw := hw.1 hc4
    exact W.vret hx hb hr (fun t ht hW => ⟨⟨M, rfl, hw, by unfold pt_B; rw [ht]; exact hP⟩, hS.F ht⟩) hS.2.2 dX7_checkRunning_15
  · replace hw := hw.2 hc4
    exact hw.elim
-- ===== X7_checkState
def wpX7_checkState (p1 : Int32) (M : pt_M) (Q : pt_M → Prop) : Prop :=
  wpX7_isWithin p1 0 ((M 1 3) - 1) M (fun (r_11 : Int32) (M_11 : pt_M) => (¬ r_11 = 0 → Q M_11) ∧ (r_11 = 0 → False))
set_option maxHeartbeats 4000000 in
set_option maxRecDepth 100000 in
theorem mtX7_checkState (l : Launch) (D : va_G) (cA : Nat → ClassId) (ad : Nat → Nat) (hI : pt_I ad) (sz : Nat) (p1 : Int32) (M : pt_M) (Q : pt_M → Prop) (hw : wpX7_checkState p1 M Q) : Met l yX7_checkState (Cond.code yX7_checkState cX7_checkState 2 none :: lw_all) ({ frames := 1, cells := 0, slots := 0, locals := 22 } : Room) (va_Pc [.ref (ad 0), .int p1] (pt_P D cA ad sz M)) (va_Qv Q (pt_B D cA ad) (pt_fr ad sz)) 0 0 (pt_fr ad sz) := by
  refine Met.ofW (cc := cX7_checkState) (maxL := 2) (ret := none) (by decide) rfl ?_
  intro p e s m args below meth c s₁ B hml hv
  obtain ⟨rfl, hsz, hP, hK⟩ := hv
  have hx := B.exec
  have hb := B.bytes
  have hr := B.returns
  have hts0 := atoms_spec (ws := (Cond.code yX7_checkState cX7_checkState 2 none :: lw_all)) B.pre
  have hown : s.vm.findClass RX7 = some m.cls := findClass_of_methodNamed B.named
  have hlocks := B.notSynchronized
  subst hsz
  have F : pt_F p m c cX7_checkState 2 s _ RX7 D cA := ⟨⟨hx, hb, hml, hown, fun w h => hts0 w (List.mem_cons_of_mem _ h)⟩, hK⟩
  have hD : ∀ M, va_D (pt_fr ad s.heap.size) (pt_W cA ad M) := pt_D hI (fun k h => Or.inl ⟨k, h, rfl⟩)
  have hS : va_S (pt_fr ad s.heap.size) s.heap s.heap [] := va_S.rf
  have hl := lv_entry ([.ref (ad 0), .int p1]) (n := 2) (Nat.le_of_ble_eq_true rfl)
  rw [lg_entry_eq]
  generalize (lg_sl ([.ref (ad 0), .int p1]) ++ List.replicate (2 - (lg_sl ([.ref (ad 0), .int p1])).length) Slot.unset).toArray = ls at hl ⊢
  have hl : lv_has ls 2 [(0, .ref (ad 0)), (1, .int p1)] := hl
  unfold wpX7_checkState at hw
  refine lv_iload_n hx hb dX7_checkState_0 rfl (lv_at hl 1 rfl) ?_
  refine lv_iconst (v := 0) hx hb dX7_checkState_1 (by decide) ?_
  refine lv_aload_n hx hb dX7_checkState_2 rfl (lv_at hl 0 rfl) ?_
  refine pt_get F hP (pt_c7 _ pt_k0) (pt_l7 pt_k0) inX7 rfl 0 (by decide) kw_370 rfl rfl dX7_checkState_3 ?_
  refine pt_get F hP (pt_c1 _ pt_k1) (pt_l1 pt_k1) inX1 rfl 3 (by decide) kw_231 rfl rfl dX7_checkState_6 ?_
  refine lv_iconst (v := 1) hx hb dX7_checkState_9 (by decide) ?_
  refine lv_isub hx hb dX7_checkState_10 ?_
  refine pt_calli (pt_runS (n := 3) (As := [.int p1, .int 0, .int ((M 1 3) - 1)]) (rest := []) F hP (mtX7_isWithin l D cA ad hI _ p1 0 ((M 1 3) - 1) M _ hw) kw_432 kw_430 kw_52 kw_431 ⟨by decide, by decide, by decide +kernel⟩ ⟨rfl, rfl, Nat.le_of_ble_eq_true rfl, Nat.le_of_ble_eq_true rfl⟩ rfl hl.1 rfl (Nat.le_of_ble_eq_true rfl) dX7_checkState_11 ⟨Nat.zero_le _, Nat.zero_le _⟩) hS (fun _ h => h) (fun r_11 M_11 H locs hw hP hS _ _ => ?_)
  refine lv_if_ne (tgt := 25) hx hb dX7_checkState_14 (by decide) (fun hc14 => ?_) (fun hc14 => ?_)
  · replace hw := hw.1 hc14
    exact W.vret hx hb hr (fun t ht hW => ⟨⟨M_11, rfl, hw, by unfold pt_B; rw [ht]; exact hP⟩, hS.F ht⟩) hS.2.2 dX7_checkState_25
  · replace hw := hw.2 hc14
    exact hw.elim
-- ===== X7_checkTransition
def wpX7_checkTransition (p1 : Int32) (M : pt_M) (Q : pt_M → Prop) : Prop :=
  wpX7_isWithin p1 0 ((M 1 4) - 1) M (fun (r_11 : Int32) (M_11 : pt_M) => (¬ r_11 = 0 → Q M_11) ∧ (r_11 = 0 → False))
set_option maxHeartbeats 4000000 in
set_option maxRecDepth 100000 in
theorem mtX7_checkTransition (l : Launch) (D : va_G) (cA : Nat → ClassId) (ad : Nat → Nat) (hI : pt_I ad) (sz : Nat) (p1 : Int32) (M : pt_M) (Q : pt_M → Prop) (hw : wpX7_checkTransition p1 M Q) : Met l yX7_checkTransition (Cond.code yX7_checkTransition cX7_checkTransition 2 none :: lw_all) ({ frames := 1, cells := 0, slots := 0, locals := 22 } : Room) (va_Pc [.ref (ad 0), .int p1] (pt_P D cA ad sz M)) (va_Qv Q (pt_B D cA ad) (pt_fr ad sz)) 0 0 (pt_fr ad sz) := by
  refine Met.ofW (cc := cX7_checkTransition) (maxL := 2) (ret := none) (by decide) rfl ?_
  intro p e s m args below meth c s₁ B hml hv
  obtain ⟨rfl, hsz, hP, hK⟩ := hv
  have hx := B.exec
  have hb := B.bytes
  have hr := B.returns
  have hts0 := atoms_spec (ws := (Cond.code yX7_checkTransition cX7_checkTransition 2 none :: lw_all)) B.pre
  have hown : s.vm.findClass RX7 = some m.cls := findClass_of_methodNamed B.named
  have hlocks := B.notSynchronized
  subst hsz
  have F : pt_F p m c cX7_checkTransition 2 s _ RX7 D cA := ⟨⟨hx, hb, hml, hown, fun w h => hts0 w (List.mem_cons_of_mem _ h)⟩, hK⟩
  have hD : ∀ M, va_D (pt_fr ad s.heap.size) (pt_W cA ad M) := pt_D hI (fun k h => Or.inl ⟨k, h, rfl⟩)
  have hS : va_S (pt_fr ad s.heap.size) s.heap s.heap [] := va_S.rf
  have hl := lv_entry ([.ref (ad 0), .int p1]) (n := 2) (Nat.le_of_ble_eq_true rfl)
  rw [lg_entry_eq]
  generalize (lg_sl ([.ref (ad 0), .int p1]) ++ List.replicate (2 - (lg_sl ([.ref (ad 0), .int p1])).length) Slot.unset).toArray = ls at hl ⊢
  have hl : lv_has ls 2 [(0, .ref (ad 0)), (1, .int p1)] := hl
  unfold wpX7_checkTransition at hw
  refine lv_iload_n hx hb dX7_checkTransition_0 rfl (lv_at hl 1 rfl) ?_
  refine lv_iconst (v := 0) hx hb dX7_checkTransition_1 (by decide) ?_
  refine lv_aload_n hx hb dX7_checkTransition_2 rfl (lv_at hl 0 rfl) ?_
  refine pt_get F hP (pt_c7 _ pt_k0) (pt_l7 pt_k0) inX7 rfl 0 (by decide) kw_370 rfl rfl dX7_checkTransition_3 ?_
  refine pt_get F hP (pt_c1 _ pt_k1) (pt_l1 pt_k1) inX1 rfl 4 (by decide) kw_234 rfl rfl dX7_checkTransition_6 ?_
  refine lv_iconst (v := 1) hx hb dX7_checkTransition_9 (by decide) ?_
  refine lv_isub hx hb dX7_checkTransition_10 ?_
  refine pt_calli (pt_runS (n := 3) (As := [.int p1, .int 0, .int ((M 1 4) - 1)]) (rest := []) F hP (mtX7_isWithin l D cA ad hI _ p1 0 ((M 1 4) - 1) M _ hw) kw_432 kw_430 kw_52 kw_431 ⟨by decide, by decide, by decide +kernel⟩ ⟨rfl, rfl, Nat.le_of_ble_eq_true rfl, Nat.le_of_ble_eq_true rfl⟩ rfl hl.1 rfl (Nat.le_of_ble_eq_true rfl) dX7_checkTransition_11 ⟨Nat.zero_le _, Nat.zero_le _⟩) hS (fun _ h => h) (fun r_11 M_11 H locs hw hP hS _ _ => ?_)
  refine lv_if_ne (tgt := 25) hx hb dX7_checkTransition_14 (by decide) (fun hc14 => ?_) (fun hc14 => ?_)
  · replace hw := hw.1 hc14
    exact W.vret hx hb hr (fun t ht hW => ⟨⟨M_11, rfl, hw, by unfold pt_B; rw [ht]; exact hP⟩, hS.F ht⟩) hS.2.2 dX7_checkTransition_25
  · replace hw := hw.2 hc14
    exact hw.elim
-- ===== X7_checkEvent
def wpX7_checkEvent (p1 : Int32) (M : pt_M) (Q : pt_M → Prop) : Prop :=
  wpX7_isWithin p1 0 9 M (fun (r_4 : Int32) (M_4 : pt_M) => (¬ r_4 = 0 → Q M_4) ∧ (r_4 = 0 → False))
set_option maxHeartbeats 4000000 in
set_option maxRecDepth 100000 in
theorem mtX7_checkEvent (l : Launch) (D : va_G) (cA : Nat → ClassId) (ad : Nat → Nat) (hI : pt_I ad) (sz : Nat) (p1 : Int32) (M : pt_M) (Q : pt_M → Prop) (hw : wpX7_checkEvent p1 M Q) : Met l yX7_checkEvent (Cond.code yX7_checkEvent cX7_checkEvent 1 none :: lw_all) ({ frames := 1, cells := 0, slots := 0, locals := 22 } : Room) (va_Pc [.int p1] (pt_P D cA ad sz M)) (va_Qv Q (pt_B D cA ad) (pt_fr ad sz)) 0 0 (pt_fr ad sz) := by
  refine Met.ofW (cc := cX7_checkEvent) (maxL := 1) (ret := none) (by decide) rfl ?_
  intro p e s m args below meth c s₁ B hml hv
  obtain ⟨rfl, hsz, hP, hK⟩ := hv
  have hx := B.exec
  have hb := B.bytes
  have hr := B.returns
  have hts0 := atoms_spec (ws := (Cond.code yX7_checkEvent cX7_checkEvent 1 none :: lw_all)) B.pre
  have hown : s.vm.findClass RX7 = some m.cls := findClass_of_methodNamed B.named
  have hlocks := B.notSynchronized
  subst hsz
  have F : pt_F p m c cX7_checkEvent 1 s _ RX7 D cA := ⟨⟨hx, hb, hml, hown, fun w h => hts0 w (List.mem_cons_of_mem _ h)⟩, hK⟩
  have hD : ∀ M, va_D (pt_fr ad s.heap.size) (pt_W cA ad M) := pt_D hI (fun k h => Or.inl ⟨k, h, rfl⟩)
  have hS : va_S (pt_fr ad s.heap.size) s.heap s.heap [] := va_S.rf
  have hl := lv_entry ([.int p1]) (n := 1) (Nat.le_of_ble_eq_true rfl)
  rw [lg_entry_eq]
  generalize (lg_sl ([.int p1]) ++ List.replicate (1 - (lg_sl ([.int p1])).length) Slot.unset).toArray = ls at hl ⊢
  have hl : lv_has ls 1 [(0, .int p1)] := hl
  unfold wpX7_checkEvent at hw
  refine lv_iload_n hx hb dX7_checkEvent_0 rfl (lv_at hl 0 rfl) ?_
  refine lv_iconst (v := 0) hx hb dX7_checkEvent_1 (by decide) ?_
  refine lv_bipush (v := 9) hx hb dX7_checkEvent_2 (by decide) ?_
  refine pt_calli (pt_runS (n := 3) (As := [.int p1, .int 0, .int 9]) (rest := []) F hP (mtX7_isWithin l D cA ad hI _ p1 0 9 M _ hw) kw_432 kw_430 kw_52 kw_431 ⟨by decide, by decide, by decide +kernel⟩ ⟨rfl, rfl, Nat.le_of_ble_eq_true rfl, Nat.le_of_ble_eq_true rfl⟩ rfl hl.1 rfl (Nat.le_of_ble_eq_true rfl) dX7_checkEvent_4 ⟨Nat.zero_le _, Nat.zero_le _⟩) hS (fun _ h => h) (fun r_4 M_4 H locs hw hP hS _ _ => ?_)
  refine lv_if_ne (tgt := 18) hx hb dX7_checkEvent_7 (by decide) (fun hc7 => ?_) (fun hc7 => ?_)
  · replace hw := hw.1 hc7
    exact W.vret hx hb hr (fun t ht hW => ⟨⟨M_4, rfl, hw, by unfold pt_B; rw [ht]; exact hP⟩, hS.F ht⟩) hS.2.2 dX7_checkEvent_18
  · replace hw := hw.2 hc7
    exact hw.elim
-- ===== X7_checkMost
def wpX7_checkMost (p1 : Int32) (M : pt_M) (Q : pt_M → Prop) : Prop :=
  wpX7_isWithin p1 1 8 M (fun (r_4 : Int32) (M_4 : pt_M) => (¬ r_4 = 0 → Q M_4) ∧ (r_4 = 0 → False))
set_option maxHeartbeats 4000000 in
set_option maxRecDepth 100000 in
theorem mtX7_checkMost (l : Launch) (D : va_G) (cA : Nat → ClassId) (ad : Nat → Nat) (hI : pt_I ad) (sz : Nat) (p1 : Int32) (M : pt_M) (Q : pt_M → Prop) (hw : wpX7_checkMost p1 M Q) : Met l yX7_checkMost (Cond.code yX7_checkMost cX7_checkMost 1 none :: lw_all) ({ frames := 1, cells := 0, slots := 0, locals := 22 } : Room) (va_Pc [.int p1] (pt_P D cA ad sz M)) (va_Qv Q (pt_B D cA ad) (pt_fr ad sz)) 0 0 (pt_fr ad sz) := by
  refine Met.ofW (cc := cX7_checkMost) (maxL := 1) (ret := none) (by decide) rfl ?_
  intro p e s m args below meth c s₁ B hml hv
  obtain ⟨rfl, hsz, hP, hK⟩ := hv
  have hx := B.exec
  have hb := B.bytes
  have hr := B.returns
  have hts0 := atoms_spec (ws := (Cond.code yX7_checkMost cX7_checkMost 1 none :: lw_all)) B.pre
  have hown : s.vm.findClass RX7 = some m.cls := findClass_of_methodNamed B.named
  have hlocks := B.notSynchronized
  subst hsz
  have F : pt_F p m c cX7_checkMost 1 s _ RX7 D cA := ⟨⟨hx, hb, hml, hown, fun w h => hts0 w (List.mem_cons_of_mem _ h)⟩, hK⟩
  have hD : ∀ M, va_D (pt_fr ad s.heap.size) (pt_W cA ad M) := pt_D hI (fun k h => Or.inl ⟨k, h, rfl⟩)
  have hS : va_S (pt_fr ad s.heap.size) s.heap s.heap [] := va_S.rf
  have hl := lv_entry ([.int p1]) (n := 1) (Nat.le_of_ble_eq_true rfl)
  rw [lg_entry_eq]
  generalize (lg_sl ([.int p1]) ++ List.replicate (1 - (lg_sl ([.int p1])).length) Slot.unset).toArray = ls at hl ⊢
  have hl : lv_has ls 1 [(0, .int p1)] := hl
  unfold wpX7_checkMost at hw
  refine lv_iload_n hx hb dX7_checkMost_0 rfl (lv_at hl 0 rfl) ?_
  refine lv_iconst (v := 1) hx hb dX7_checkMost_1 (by decide) ?_
  refine lv_bipush (v := 8) hx hb dX7_checkMost_2 (by decide) ?_
  refine pt_calli (pt_runS (n := 3) (As := [.int p1, .int 1, .int 8]) (rest := []) F hP (mtX7_isWithin l D cA ad hI _ p1 1 8 M _ hw) kw_432 kw_430 kw_52 kw_431 ⟨by decide, by decide, by decide +kernel⟩ ⟨rfl, rfl, Nat.le_of_ble_eq_true rfl, Nat.le_of_ble_eq_true rfl⟩ rfl hl.1 rfl (Nat.le_of_ble_eq_true rfl) dX7_checkMost_4 ⟨Nat.zero_le _, Nat.zero_le _⟩) hS (fun _ h => h) (fun r_4 M_4 H locs hw hP hS _ _ => ?_)
  refine lv_if_ne (tgt := 18) hx hb dX7_checkMost_7 (by decide) (fun hc7 => ?_) (fun hc7 => ?_)
  · replace hw := hw.1 hc7
    exact W.vret hx hb hr (fun t ht hW => ⟨⟨M_4, rfl, hw, by unfold pt_B; rw [ht]; exact hP⟩, hS.F ht⟩) hS.2.2 dX7_checkMost_18
  · replace hw := hw.2 hc7
    exact hw.elim
-- ===== X7_isTrigger
def wjX7_isTrigger_40 (p1 : Int32) (p2 : Int32) (Q : Int32 → pt_M → Prop)  (xs0 : Int32) (M : pt_M) : Prop :=
  pt_zb xs0 ∧ Q xs0 M
def wjX7_isTrigger_35 (p1 : Int32) (p2 : Int32) (Q : Int32 → pt_M → Prop)   (M : pt_M) : Prop :=
  wjX7_isTrigger_40 p1 p2 Q 1 M
def wpX7_isTrigger (p1 : Int32) (p2 : Int32) (M : pt_M) (Q : Int32 → pt_M → Prop) : Prop :=
  (¬ p1 = 0 → (¬ p1 = 1 → (p1 = 2 → wjX7_isTrigger_35 p1 p2 Q M) ∧ (¬ p1 = 2 → (¬ p1 = 3 → wjX7_isTrigger_40 p1 p2 Q 0 M) ∧ (p1 = 3 → wjX7_isTrigger_35 p1 p2 Q M))) ∧ (p1 = 1 → wpX7_isWithin p2 1 50 M (fun (r_21 : Int32) (M_21 : pt_M) => pt_zb r_21 ∧ Q r_21 M_21))) ∧ (p1 = 0 → wpX7_isWithin p2 0 9 M (fun (r_8 : Int32) (M_8 : pt_M) => pt_zb r_8 ∧ Q r_8 M_8))
set_option maxHeartbeats 4000000 in
set_option maxRecDepth 100000 in
theorem mtX7_isTrigger (l : Launch) (D : va_G) (cA : Nat → ClassId) (ad : Nat → Nat) (hI : pt_I ad) (sz : Nat) (p1 : Int32) (p2 : Int32) (M : pt_M) (Q : Int32 → pt_M → Prop) (hw : wpX7_isTrigger p1 p2 M Q) : Met l yX7_isTrigger (Cond.code yX7_isTrigger cX7_isTrigger 2 (some .boolean) :: lw_all) ({ frames := 1, cells := 0, slots := 0, locals := 22 } : Room) (va_Pc [.int p1, .int p2] (pt_P D cA ad sz M)) (va_Qi Q (pt_B D cA ad) (pt_fr ad sz)) 0 0 (pt_fr ad sz) := by
  refine Met.ofW (cc := cX7_isTrigger) (maxL := 2) (ret := (some .boolean)) (by decide) rfl ?_
  intro p e s m args below meth c s₁ B hml hv
  obtain ⟨rfl, hsz, hP, hK⟩ := hv
  have hx := B.exec
  have hb := B.bytes
  have hr := B.returns
  have hts0 := atoms_spec (ws := (Cond.code yX7_isTrigger cX7_isTrigger 2 (some .boolean) :: lw_all)) B.pre
  have hown : s.vm.findClass RX7 = some m.cls := findClass_of_methodNamed B.named
  have hlocks := B.notSynchronized
  subst hsz
  have F : pt_F p m c cX7_isTrigger 2 s _ RX7 D cA := ⟨⟨hx, hb, hml, hown, fun w h => hts0 w (List.mem_cons_of_mem _ h)⟩, hK⟩
  have hD : ∀ M, va_D (pt_fr ad s.heap.size) (pt_W cA ad M) := pt_D hI (fun k h => Or.inl ⟨k, h, rfl⟩)
  have hS : va_S (pt_fr ad s.heap.size) s.heap s.heap [] := va_S.rf
  have hl := lv_entry ([.int p1, .int p2]) (n := 2) (Nat.le_of_ble_eq_true rfl)
  rw [lg_entry_eq]
  generalize (lg_sl ([.int p1, .int p2]) ++ List.replicate (2 - (lg_sl ([.int p1, .int p2])).length) Slot.unset).toArray = ls at hl ⊢
  have hl : lv_has ls 2 [(0, .int p1), (1, .int p2)] := hl
  have J40 : ∀ (xs0 : Int32) (M : pt_M) (H : Heap) (locs : List Loc) (ls : Array Slot), wjX7_isTrigger_40 p1 p2 Q xs0 M → va_P D pt_cl (pt_W cA ad M) H → va_S (pt_fr ad s.heap.size) s.heap H locs → lv_has ls 2 [] → W p l e (headSpec (Cond.code yX7_isTrigger cX7_isTrigger 2 (some .boolean) :: lw_all) ({ frames := 1, cells := 0, slots := 0, locals := 22 } : Room)).room s m ([.int p1, .int p2] : List Value).toArray below meth c H locs 0 0 (MQ below (va_Qi Q (pt_B D cA ad) (pt_fr ad s.heap.size)) ([.int p1, .int p2] : List Value).toArray s 0 0 (pt_fr ad s.heap.size)) (F0 m 40 ls [.int xs0]) := by
    intro xs0 M H locs ls hw hP hS hl
    unfold wjX7_isTrigger_40 at hw
    exact W.zret (v := xs0) (ty := .boolean) hx hb hr (pt_zb_n hw.1) (fun t ht hW => ⟨⟨xs0, M, rfl, hw.2, by unfold pt_B; rw [ht]; exact hP⟩, hS.F ht⟩) hS.2.2 dX7_isTrigger_40
  have J35 : ∀ (M : pt_M) (H : Heap) (locs : List Loc) (ls : Array Slot), wjX7_isTrigger_35 p1 p2 Q M → va_P D pt_cl (pt_W cA ad M) H → va_S (pt_fr ad s.heap.size) s.heap H locs → lv_has ls 2 [] → W p l e (headSpec (Cond.code yX7_isTrigger cX7_isTrigger 2 (some .boolean) :: lw_all) ({ frames := 1, cells := 0, slots := 0, locals := 22 } : Room)).room s m ([.int p1, .int p2] : List Value).toArray below meth c H locs 0 0 (MQ below (va_Qi Q (pt_B D cA ad) (pt_fr ad s.heap.size)) ([.int p1, .int p2] : List Value).toArray s 0 0 (pt_fr ad s.heap.size)) (F0 m 35 ls []) := by
    intro M H locs ls hw hP hS hl
    unfold wjX7_isTrigger_35 at hw
    refine lv_iconst (v := 1) hx hb dX7_isTrigger_35 (by decide) ?_
    refine lv_goto (tgt := 40) hx hb dX7_isTrigger_36 (by decide) ?_
    exact J40 1 M _ _ _ hw hP hS (lv_sub hl [] rfl)
  unfold wpX7_isTrigger at hw
  refine lv_iload_n hx hb dX7_isTrigger_0 rfl (lv_at hl 0 rfl) ?_
  refine lv_if_ne (tgt := 12) hx hb dX7_isTrigger_1 (by decide) (fun hc1 => ?_) (fun hc1 => ?_)
  · replace hw := hw.1 hc1
    refine lv_iload_n hx hb dX7_isTrigger_12 rfl (lv_at hl 0 rfl) ?_
    refine lv_iconst (v := 1) hx hb dX7_isTrigger_13 (by decide) ?_
    refine lv_icmp_ne (tgt := 25) hx hb dX7_isTrigger_14 (by decide) (fun hc14 => ?_) (fun hc14 => ?_)
    · replace hw := hw.1 hc14
      refine lv_iload_n hx hb dX7_isTrigger_25 rfl (lv_at hl 0 rfl) ?_
      refine lv_iconst (v := 2) hx hb dX7_isTrigger_26 (by decide) ?_
      refine lv_icmp_eq (tgt := 35) hx hb dX7_isTrigger_27 (by decide) (fun hc27 => ?_) (fun hc27 => ?_)
      · replace hw := hw.1 hc27
        exact J35 M _ _ _ hw hP hS (lv_sub hl [] rfl)
      · replace hw := hw.2 hc27
        refine lv_iload_n hx hb dX7_isTrigger_30 rfl (lv_at hl 0 rfl) ?_
        refine lv_iconst (v := 3) hx hb dX7_isTrigger_31 (by decide) ?_
        refine lv_icmp_ne (tgt := 39) hx hb dX7_isTrigger_32 (by decide) (fun hc32 => ?_) (fun hc32 => ?_)
        · replace hw := hw.1 hc32
          refine lv_iconst (v := 0) hx hb dX7_isTrigger_39 (by decide) ?_
          exact J40 0 M _ _ _ hw hP hS (lv_sub hl [] rfl)
        · replace hw := hw.2 hc32
          exact J35 M _ _ _ hw hP hS (lv_sub hl [] rfl)
    · replace hw := hw.2 hc14
      refine lv_iload_n hx hb dX7_isTrigger_17 rfl (lv_at hl 1 rfl) ?_
      refine lv_iconst (v := 1) hx hb dX7_isTrigger_18 (by decide) ?_
      refine lv_bipush (v := 50) hx hb dX7_isTrigger_19 (by decide) ?_
      refine pt_calli (pt_runS (n := 3) (As := [.int p2, .int 1, .int 50]) (rest := []) F hP (mtX7_isWithin l D cA ad hI _ p2 1 50 M _ hw) kw_432 kw_430 kw_52 kw_431 ⟨by decide, by decide, by decide +kernel⟩ ⟨rfl, rfl, Nat.le_of_ble_eq_true rfl, Nat.le_of_ble_eq_true rfl⟩ rfl hl.1 rfl (Nat.le_of_ble_eq_true rfl) dX7_isTrigger_21 ⟨Nat.zero_le _, Nat.zero_le _⟩) hS (fun _ h => h) (fun r_21 M_21 H locs hw hP hS _ _ => ?_)
      exact W.zret (v := r_21) (ty := .boolean) hx hb hr (pt_zb_n hw.1) (fun t ht hW => ⟨⟨r_21, M_21, rfl, hw.2, by unfold pt_B; rw [ht]; exact hP⟩, hS.F ht⟩) hS.2.2 dX7_isTrigger_24
  · replace hw := hw.2 hc1
    refine lv_iload_n hx hb dX7_isTrigger_4 rfl (lv_at hl 1 rfl) ?_
    refine lv_iconst (v := 0) hx hb dX7_isTrigger_5 (by decide) ?_
    refine lv_bipush (v := 9) hx hb dX7_isTrigger_6 (by decide) ?_
    refine pt_calli (pt_runS (n := 3) (As := [.int p2, .int 0, .int 9]) (rest := []) F hP (mtX7_isWithin l D cA ad hI _ p2 0 9 M _ hw) kw_432 kw_430 kw_52 kw_431 ⟨by decide, by decide, by decide +kernel⟩ ⟨rfl, rfl, Nat.le_of_ble_eq_true rfl, Nat.le_of_ble_eq_true rfl⟩ rfl hl.1 rfl (Nat.le_of_ble_eq_true rfl) dX7_isTrigger_8 ⟨Nat.zero_le _, Nat.zero_le _⟩) hS (fun _ h => h) (fun r_8 M_8 H locs hw hP hS _ _ => ?_)
    exact W.zret (v := r_8) (ty := .boolean) hx hb hr (pt_zb_n hw.1) (fun t ht hW => ⟨⟨r_8, M_8, rfl, hw.2, by unfold pt_B; rw [ht]; exact hP⟩, hS.F ht⟩) hS.2.2 dX7_isTrigger_11
