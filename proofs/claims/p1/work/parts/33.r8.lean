-- ===== X12_digest
def lbX12_digest_327  (Q : Int64 → pt_M → Prop)  (R327 : Int64 → Int32 → pt_M → Prop) (x1 : Int64) (x3 : Int32) (M : pt_M) : Prop :=
  (8 ≤ x3 → Q x1 M) ∧ (¬ 8 ≤ x3 → wpX12_rowed x3 M (fun (r_336 : Int32) (M_336 : pt_M) => wpX12_add x1 (Int32.toInt64 r_336) M_336 (fun (r_340 : Int64) (M_340 : pt_M) => ∀ x3_344 : Int32, x3_344 = x3 + 1 → R327 r_340 x3_344 M_340)))
def lpX12_digest_327  (Q : Int64 → pt_M → Prop)  : Nat → Int64 → Int32 → pt_M → Prop
  | 0 => fun _ _ _ => False
  | n + 1 => fun x1 x3 M => lbX12_digest_327 Q (lpX12_digest_327 Q n) x1 x3 M
def lbX12_digest_290  (Q : Int64 → pt_M → Prop)  (R290 : Int64 → Int32 → pt_M → Prop) (x1 : Int64) (x3 : Int32) (M : pt_M) : Prop :=
  wpJx4a65c_size_8abf5 5 M (fun (r_298 : Int32) (M_298 : pt_M) => (r_298 ≤ x3 → ∃ n : Nat, lpX12_digest_327 Q n x1 0 M_298) ∧ (¬ r_298 ≤ x3 → vp_in x3 30 ∧ (wpX12_add x1 (Int32.toInt64 (M_298 10 (Int32.toNatClampNeg x3))) M_298 (fun (r_315 : Int64) (M_315 : pt_M) => ∀ x3_319 : Int32, x3_319 = x3 + 1 → R290 r_315 x3_319 M_315))))
def lpX12_digest_290  (Q : Int64 → pt_M → Prop)  : Nat → Int64 → Int32 → pt_M → Prop
  | 0 => fun _ _ _ => False
  | n + 1 => fun x1 x3 M => lbX12_digest_290 Q (lpX12_digest_290 Q n) x1 x3 M
def lbX12_digest_262  (Q : Int64 → pt_M → Prop)  (R262 : Int64 → Int32 → pt_M → Prop) (x1 : Int64) (x3 : Int32) (M : pt_M) : Prop :=
  (4 ≤ x3 → ∃ n : Nat, lpX12_digest_290 Q n x1 0 M) ∧ (¬ 4 ≤ x3 → vp_in x3 4 ∧ (wpX12_add x1 (Int32.toInt64 (M 9 (Int32.toNatClampNeg x3))) M (fun (r_278 : Int64) (M_278 : pt_M) => ∀ x3_282 : Int32, x3_282 = x3 + 1 → R262 r_278 x3_282 M_278)))
def lpX12_digest_262  (Q : Int64 → pt_M → Prop)  : Nat → Int64 → Int32 → pt_M → Prop
  | 0 => fun _ _ _ => False
  | n + 1 => fun x1 x3 M => lbX12_digest_262 Q (lpX12_digest_262 Q n) x1 x3 M
def wjX12_digest_254  (Q : Int64 → pt_M → Prop) (R147 : Int64 → Int32 → pt_M → Prop) (x1 : Int64) (x3 : Int32) (M : pt_M) : Prop :=
  ∀ x3_254 : Int32, x3_254 = x3 + 1 → R147 x1 x3_254 M
def wjX12_digest_206  (Q : Int64 → pt_M → Prop) (R147 : Int64 → Int32 → pt_M → Prop) (x3 : Int32) (xs0 : Int64) (xs1 : Int64) (M : pt_M) : Prop :=
  wpX12_add xs0 xs1 M (fun (r_206 : Int64) (M_206 : pt_M) => wpX12_age x3 M_206 (fun (r_211 : Int32) (M_211 : pt_M) => wpX12_add r_206 (Int32.toInt64 r_211) M_211 (fun (r_215 : Int64) (M_215 : pt_M) => wpJx4a65c_get_915e3 x3 M_215 (fun (M_227 : pt_M) => wpX10_isMark M_227 (fun (r_233 : Int32) (M_233 : pt_M) => (r_233 = 0 → wjX12_digest_254 Q R147 r_215 x3 M_233) ∧ (¬ r_233 = 0 → vp_in x3 20 ∧ (wpX12_add r_215 (Int32.toInt64 (M_233 8 (Int32.toNatClampNeg x3))) M_233 (fun (r_250 : Int64) (M_250 : pt_M) => wjX12_digest_254 Q R147 r_250 x3 M_250))))))))
def lbX12_digest_164  (Q : Int64 → pt_M → Prop) (R147 : Int64 → Int32 → pt_M → Prop) (R164 : Int64 → Int32 → Int32 → pt_M → Prop) (x1 : Int64) (x3 : Int32) (x4 : Int32) (M : pt_M) : Prop :=
  (4 ≤ x4 → wpX9_isEnded x3 M (fun (r_195 : Int32) (M_195 : pt_M) => (r_195 = 0 → wjX12_digest_206 Q R147 x3 x1 0 M_195) ∧ (¬ r_195 = 0 → wjX12_digest_206 Q R147 x3 x1 1 M_195))) ∧ (¬ 4 ≤ x4 → wpX12_of x3 x4 M (fun (r_175 : Int32) (M_175 : pt_M) => wpX12_add x1 (Int32.toInt64 r_175) M_175 (fun (r_179 : Int64) (M_179 : pt_M) => ∀ x4_183 : Int32, x4_183 = x4 + 1 → R164 r_179 x3 x4_183 M_179)))
def lpX12_digest_164  (Q : Int64 → pt_M → Prop) (R147 : Int64 → Int32 → pt_M → Prop) : Nat → Int64 → Int32 → Int32 → pt_M → Prop
  | 0 => fun _ _ _ _ => False
  | n + 1 => fun x1 x3 x4 M => lbX12_digest_164 Q R147 (lpX12_digest_164 Q R147 n) x1 x3 x4 M
def lbX12_digest_147  (Q : Int64 → pt_M → Prop)  (R147 : Int64 → Int32 → pt_M → Prop) (x1 : Int64) (x3 : Int32) (M : pt_M) : Prop :=
  wpJx4a65c_size_8abf5 2 M (fun (r_155 : Int32) (M_155 : pt_M) => (r_155 ≤ x3 → ∃ n : Nat, lpX12_digest_262 Q n x1 0 M_155) ∧ (¬ r_155 ≤ x3 → ∃ n : Nat, lpX12_digest_164 Q R147 n x1 x3 0 M_155))
def lpX12_digest_147  (Q : Int64 → pt_M → Prop)  : Nat → Int64 → Int32 → pt_M → Prop
  | 0 => fun _ _ _ => False
  | n + 1 => fun x1 x3 M => lbX12_digest_147 Q (lpX12_digest_147 Q n) x1 x3 M
def wjX12_digest_92  (Q : Int64 → pt_M → Prop)  (xs0 : Int64) (xs1 : Int64) (M : pt_M) : Prop :=
  wpX12_add xs0 xs1 M (fun (r_92 : Int64) (M_92 : pt_M) => wpX12_add r_92 (Int32.toInt64 (M_92 6 7)) M_92 (fun (r_103 : Int64) (M_103 : pt_M) => wpX12_covers M_103 (fun (r_107 : Int32) (M_107 : pt_M) => wpX12_add r_103 (Int32.toInt64 r_107) M_107 (fun (r_111 : Int64) (M_111 : pt_M) => wpX12_add r_111 (Int32.toInt64 (M_111 6 8)) M_111 (fun (r_122 : Int64) (M_122 : pt_M) => wpX12_add r_122 (Int32.toInt64 (M_122 6 9)) M_122 (fun (r_133 : Int64) (M_133 : pt_M) => wpX12_add r_133 (Int32.toInt64 (M_133 0 4)) M_133 (fun (r_141 : Int64) (M_141 : pt_M) => ∃ n : Nat, lpX12_digest_147 Q n r_141 0 M_141)))))))
def wjX12_digest_91  (Q : Int64 → pt_M → Prop)  (xs0 : Int64) (M : pt_M) : Prop :=
  wjX12_digest_92 Q xs0 0 M
def wjX12_digest_51  (Q : Int64 → pt_M → Prop)  (xs0 : Int64) (xs1 : Int64) (M : pt_M) : Prop :=
  wpX12_add xs0 xs1 M (fun (r_51 : Int64) (M_51 : pt_M) => wpX12_add r_51 (Int32.toInt64 (M_51 6 1)) M_51 (fun (r_62 : Int64) (M_62 : pt_M) => ((M_62 6 0) = 0 → wjX12_digest_91 Q r_62 M_62) ∧ (¬ (M_62 6 0) = 0 → wpX9_isOver M_62 (fun (r_81 : Int32) (M_81 : pt_M) => (r_81 = 0 → wjX12_digest_91 Q r_62 M_81) ∧ (¬ r_81 = 0 → wjX12_digest_92 Q r_62 1 M_81)))))
def wpX12_digest  (M : pt_M) (Q : Int64 → pt_M → Prop) : Prop :=
  ∀ M_2 : pt_M, M_2 = pt_st M 0 0 0 → wpJx4a65c_size_8abf5 2 M_2 (fun (r_15 : Int32) (M_15 : pt_M) => wpX12_add 58059 (Int32.toInt64 r_15) M_15 (fun (r_19 : Int64) (M_19 : pt_M) => wpJx4a65c_size_8abf5 5 M_19 (fun (r_29 : Int32) (M_29 : pt_M) => wpX12_add r_19 (Int32.toInt64 r_29) M_29 (fun (r_33 : Int64) (M_33 : pt_M) => ((M_33 6 0) = 0 → wjX12_digest_51 Q r_33 0 M_33) ∧ (¬ (M_33 6 0) = 0 → wjX12_digest_51 Q r_33 1 M_33)))))
set_option maxHeartbeats 4000000 in
set_option maxRecDepth 100000 in
theorem mtX12_digest (l : Launch) (D : va_G) (cA : Nat → ClassId) (ad : Nat → Nat) (hI : rt_I ad) (sz : Nat) (M : pt_M) (Q : Int64 → pt_M → Prop) (hw : wpX12_digest M Q) : Met l yX12_digest (Cond.code yX12_digest cX12_digest 5 (some .long) :: lw_all) ({ frames := 7, cells := 0, slots := 0, locals := 151 } : Room) (va_Pc [.ref (ad 0)] (rt_P D cA ad sz M)) (va_Ql Q (rt_B D cA ad) (rt_fr ad sz)) 0 0 (rt_fr ad sz) := by
  refine Met.ofW (cc := cX12_digest) (maxL := 5) (ret := (some .long)) (by decide) rfl ?_
  intro p e s m args below meth c s₁ B hml hv
  obtain ⟨rfl, hsz, hP, hK, hN⟩ := hv
  have hx := B.exec
  have hb := B.bytes
  have hr := B.returns
  have hts0 := atoms_spec (ws := (Cond.code yX12_digest cX12_digest 5 (some .long) :: lw_all)) B.pre
  have hown : s.vm.findClass RX12 = some m.cls := findClass_of_methodNamed B.named
  have hlocks := B.notSynchronized
  subst hsz
  have F : pt_F p m c cX12_digest 5 s _ RX12 D cA := ⟨⟨hx, hb, hml, hown, fun w h => hts0 w (List.mem_cons_of_mem _ h)⟩, hK⟩
  have hD : ∀ M, va_D (rt_fr ad s.heap.size) (rt_W cA ad M) := rt_D hI (fun k h => Or.inl ⟨k, h, rfl⟩)
  have hS : va_S (rt_fr ad s.heap.size) s.heap s.heap [] := va_S.rf
  have hl := lv_entry ([.ref (ad 0)]) (n := 5) (Nat.le_of_ble_eq_true rfl)
  rw [lg_entry_eq]
  generalize (lg_sl ([.ref (ad 0)]) ++ List.replicate (5 - (lg_sl ([.ref (ad 0)])).length) Slot.unset).toArray = ls at hl ⊢
  have hl : lv_has ls 5 [(0, .ref (ad 0))] := hl
  have L327 : ∀ (n327 : Nat) (x1 : Int64) (x3 : Int32) (M : pt_M) (H : Heap) (locs : List Loc) (ls : Array Slot), lpX12_digest_327 Q n327 x1 x3 M → va_P D pt_cl (rt_W cA ad M) H → va_S (rt_fr ad s.heap.size) s.heap H locs → lv_has ls 5 [(0, .ref (ad 0)), (1, .long x1), (3, .int x3)] → W p l e (headSpec (Cond.code yX12_digest cX12_digest 5 (some .long) :: lw_all) ({ frames := 7, cells := 0, slots := 0, locals := 151 } : Room)).room s m ([.ref (ad 0)] : List Value).toArray below meth c H locs 0 0 (MQ below (va_Ql Q (rt_B D cA ad) (rt_fr ad s.heap.size)) ([.ref (ad 0)] : List Value).toArray s 0 0 (rt_fr ad s.heap.size)) (F0 m 327 ls []) := by
    intro n327
    induction n327 with
    | zero => intro x1 x3 M H locs ls hw; exact hw.elim
    | succ n327 ih327 =>
      intro x1 x3 M H locs ls hw hP hS hl
      replace hw : lbX12_digest_327 Q (lpX12_digest_327 Q n327) x1 x3 M := hw
      unfold lbX12_digest_327 at hw
      refine lv_iload_n hx hb dX12_digest_327 rfl (lv_at hl 2 rfl) ?_
      refine lv_bipush (v := 8) hx hb dX12_digest_328 (by decide) ?_
      refine lv_icmp_ge (tgt := 350) hx hb dX12_digest_330 (by decide) (fun hc330 => ?_) (fun hc330 => ?_)
      · replace hw := hw.1 hc330
        refine lv_lload_n hx hb dX12_digest_350 rfl (lv_at hl 1 rfl) ?_
        exact W.lret (v := x1) hx hb hr (fun t ht hW => ⟨⟨x1, M, rfl, hw, by unfold rt_B; rw [ht]; exact hP⟩, hS.F ht⟩) hS.2.2 dX12_digest_351
      · replace hw := hw.2 hc330
        refine lv_lload_n hx hb dX12_digest_333 rfl (lv_at hl 1 rfl) ?_
        refine lv_aload_n hx hb dX12_digest_334 rfl (lv_at hl 0 rfl) ?_
        refine lv_iload_n hx hb dX12_digest_335 rfl (lv_at hl 2 rfl) ?_
        refine rt_calli (rt_runV (n := 1) (As := [.int x3]) (rest := [.long x1]) F hP hN hS (rt_frs hS.1) (rt_c12 _ rt_k0) (rt_l12 rt_k0) rfl (mtX12_rowed l D cA ad hI _ x3 M _ hw) kw_1622 kw_1619 kw_60 kw_1621 kw_50 ⟨by decide, by decide, by decide +kernel⟩ ⟨rfl, rfl, Nat.le_of_ble_eq_true rfl, Nat.le_of_ble_eq_true rfl⟩ rfl hl.1 rfl (Nat.le_of_ble_eq_true rfl) dX12_digest_336 ⟨Nat.zero_le _, Nat.zero_le _⟩) hS (fun _ h => h) (fun r_336 M_336 H locs hw hP hS _ _ => ?_)
        refine lv_i2l hx hb dX12_digest_339 rfl ?_
        refine rt_calll (rt_runS (n := 2) (As := [.long x1, .long (Int32.toInt64 r_336)]) (rest := []) F hP hN hS (rt_frs hS.1) (mtX12_add l D cA ad hI _ x1 (Int32.toInt64 r_336) M_336 _ hw) kw_1638 kw_1636 kw_60 kw_1637 ⟨by decide, by decide, by decide +kernel⟩ ⟨rfl, rfl, Nat.le_of_ble_eq_true rfl, Nat.le_of_ble_eq_true rfl⟩ rfl hl.1 rfl (Nat.le_of_ble_eq_true rfl) dX12_digest_340 ⟨Nat.zero_le _, Nat.zero_le _⟩) hS (fun _ h => h) (fun r_340 M_340 H locs hw hP hS _ _ => ?_)
        refine lv_lstore_n (lv' := [(1, .long r_340), (0, .ref (ad 0)), (3, .int x3)]) hx hb dX12_digest_343 rfl hl (by decide) rfl (fun ls hl => ?_)
        obtain ⟨x3_344, ex3_344⟩ : ∃ y : Int32, y = x3 + 1 := ⟨_, rfl⟩
        replace hw := hw x3_344 ex3_344
        refine lv_iinc (v := x3_344) (lv' := [(3, .int x3_344), (1, .long r_340), (0, .ref (ad 0))]) hx hb dX12_digest_344 hl (k := 2) rfl (by rw [ex3_344]; rfl) (by decide) rfl (fun ls hl => ?_)
        refine lv_goto (tgt := 327) hx hb dX12_digest_347 (by decide) ?_
        exact ih327 r_340 x3_344 M_340 _ _ _ hw hP hS (lv_sub hl [2, 1, 0] rfl)
  have L290 : ∀ (n290 : Nat) (x1 : Int64) (x3 : Int32) (M : pt_M) (H : Heap) (locs : List Loc) (ls : Array Slot), lpX12_digest_290 Q n290 x1 x3 M → va_P D pt_cl (rt_W cA ad M) H → va_S (rt_fr ad s.heap.size) s.heap H locs → lv_has ls 5 [(0, .ref (ad 0)), (1, .long x1), (3, .int x3)] → W p l e (headSpec (Cond.code yX12_digest cX12_digest 5 (some .long) :: lw_all) ({ frames := 7, cells := 0, slots := 0, locals := 151 } : Room)).room s m ([.ref (ad 0)] : List Value).toArray below meth c H locs 0 0 (MQ below (va_Ql Q (rt_B D cA ad) (rt_fr ad s.heap.size)) ([.ref (ad 0)] : List Value).toArray s 0 0 (rt_fr ad s.heap.size)) (F0 m 290 ls []) := by
    intro n290
    induction n290 with
    | zero => intro x1 x3 M H locs ls hw; exact hw.elim
    | succ n290 ih290 =>
      intro x1 x3 M H locs ls hw hP hS hl
      replace hw : lbX12_digest_290 Q (lpX12_digest_290 Q n290) x1 x3 M := hw
      unfold lbX12_digest_290 at hw
      refine lv_iload_n hx hb dX12_digest_290 rfl (lv_at hl 2 rfl) ?_
      refine lv_aload_n hx hb dX12_digest_291 rfl (lv_at hl 0 rfl) ?_
      refine rt_get F hP (rt_c12 _ rt_k0) (rt_l12 rt_k0) inX12 rfl 1 (by decide) kw_1140 rfl rfl dX12_digest_292 ?_
      refine rt_get F hP (rt_c8 _ rt_k1) (rt_l8 rt_k1) inX8 rfl 1 (by decide) kw_988 rfl rfl dX12_digest_295 ?_
      refine rt_calli (rt_runV (n := 0) (As := []) (rest := [.int x3]) F hP hN hS (rt_frs hS.1) (rt_c13 _ rt_k5) (rt_l13 rt_k5) rfl (mtJx4a65c_size_8abf5 l D cA ad hI _ 5 rt_k5 M _ hw) kw_1167 kw_1164 kw_64 kw_1165 kw_1166 ⟨by decide, by decide, by decide +kernel⟩ ⟨rfl, rfl, Nat.le_of_ble_eq_true rfl, Nat.le_of_ble_eq_true rfl⟩ rfl hl.1 rfl (Nat.le_of_ble_eq_true rfl) dX12_digest_298 ⟨Nat.zero_le _, Nat.zero_le _⟩) hS (fun _ h => h) (fun r_298 M_298 H locs hw hP hS _ _ => ?_)
      refine lv_icmp_ge (tgt := 325) hx hb dX12_digest_301 (by decide) (fun hc301 => ?_) (fun hc301 => ?_)
      · replace hw := hw.1 hc301
        refine lv_iconst (v := 0) hx hb dX12_digest_325 (by decide) ?_
        refine lv_istore_n (lv' := [(3, .int 0), (0, .ref (ad 0)), (1, .long x1)]) hx hb dX12_digest_326 rfl hl (by decide) rfl (fun ls hl => ?_)
        obtain ⟨n_, hw⟩ := hw
        exact L327 n_ x1 0 M_298 _ _ _ hw hP hS (lv_sub hl [1, 2, 0] rfl)
      · replace hw := hw.2 hc301
        refine lv_lload_n hx hb dX12_digest_304 rfl (lv_at hl 1 rfl) ?_
        refine lv_aload_n hx hb dX12_digest_305 rfl (lv_at hl 0 rfl) ?_
        refine rt_get F hP (rt_c12 _ rt_k0) (rt_l12 rt_k0) inX12 rfl 2 (by decide) kw_1142 rfl rfl dX12_digest_306 ?_
        refine rt_get F hP (rt_c9 _ rt_k6) (rt_l9 rt_k6) inX9 rfl 5 (by decide) kw_1014 rfl rfl dX12_digest_309 ?_
        refine lv_iload_n hx hb dX12_digest_312 rfl (lv_at hl 2 rfl) ?_
        have hv313 := hw.1
        replace hw := hw.2
        refine rt_iald F hP rt_a10 hv313 dX12_digest_313 ?_
        refine lv_i2l hx hb dX12_digest_314 rfl ?_
        refine rt_calll (rt_runS (n := 2) (As := [.long x1, .long (Int32.toInt64 (M_298 10 (Int32.toNatClampNeg x3)))]) (rest := []) F hP hN hS (rt_frs hS.1) (mtX12_add l D cA ad hI _ x1 (Int32.toInt64 (M_298 10 (Int32.toNatClampNeg x3))) M_298 _ hw) kw_1638 kw_1636 kw_60 kw_1637 ⟨by decide, by decide, by decide +kernel⟩ ⟨rfl, rfl, Nat.le_of_ble_eq_true rfl, Nat.le_of_ble_eq_true rfl⟩ rfl hl.1 rfl (Nat.le_of_ble_eq_true rfl) dX12_digest_315 ⟨Nat.zero_le _, Nat.zero_le _⟩) hS (fun _ h => h) (fun r_315 M_315 H locs hw hP hS _ _ => ?_)
        refine lv_lstore_n (lv' := [(1, .long r_315), (0, .ref (ad 0)), (3, .int x3)]) hx hb dX12_digest_318 rfl hl (by decide) rfl (fun ls hl => ?_)
        obtain ⟨x3_319, ex3_319⟩ : ∃ y : Int32, y = x3 + 1 := ⟨_, rfl⟩
        replace hw := hw x3_319 ex3_319
        refine lv_iinc (v := x3_319) (lv' := [(3, .int x3_319), (1, .long r_315), (0, .ref (ad 0))]) hx hb dX12_digest_319 hl (k := 2) rfl (by rw [ex3_319]; rfl) (by decide) rfl (fun ls hl => ?_)
        refine lv_goto (tgt := 290) hx hb dX12_digest_322 (by decide) ?_
        exact ih290 r_315 x3_319 M_315 _ _ _ hw hP hS (lv_sub hl [2, 1, 0] rfl)
  have L262 : ∀ (n262 : Nat) (x1 : Int64) (x3 : Int32) (M : pt_M) (H : Heap) (locs : List Loc) (ls : Array Slot), lpX12_digest_262 Q n262 x1 x3 M → va_P D pt_cl (rt_W cA ad M) H → va_S (rt_fr ad s.heap.size) s.heap H locs → lv_has ls 5 [(0, .ref (ad 0)), (1, .long x1), (3, .int x3)] → W p l e (headSpec (Cond.code yX12_digest cX12_digest 5 (some .long) :: lw_all) ({ frames := 7, cells := 0, slots := 0, locals := 151 } : Room)).room s m ([.ref (ad 0)] : List Value).toArray below meth c H locs 0 0 (MQ below (va_Ql Q (rt_B D cA ad) (rt_fr ad s.heap.size)) ([.ref (ad 0)] : List Value).toArray s 0 0 (rt_fr ad s.heap.size)) (F0 m 262 ls []) := by
    intro n262
    induction n262 with
    | zero => intro x1 x3 M H locs ls hw; exact hw.elim
    | succ n262 ih262 =>
      intro x1 x3 M H locs ls hw hP hS hl
      replace hw : lbX12_digest_262 Q (lpX12_digest_262 Q n262) x1 x3 M := hw
      unfold lbX12_digest_262 at hw
      refine lv_iload_n hx hb dX12_digest_262 rfl (lv_at hl 2 rfl) ?_
      refine lv_iconst (v := 4) hx hb dX12_digest_263 (by decide) ?_
      refine lv_icmp_ge (tgt := 288) hx hb dX12_digest_264 (by decide) (fun hc264 => ?_) (fun hc264 => ?_)
      · replace hw := hw.1 hc264
        refine lv_iconst (v := 0) hx hb dX12_digest_288 (by decide) ?_
        refine lv_istore_n (lv' := [(3, .int 0), (0, .ref (ad 0)), (1, .long x1)]) hx hb dX12_digest_289 rfl hl (by decide) rfl (fun ls hl => ?_)
        obtain ⟨n_, hw⟩ := hw
        exact L290 n_ x1 0 M _ _ _ hw hP hS (lv_sub hl [1, 2, 0] rfl)
      · replace hw := hw.2 hc264
        refine lv_lload_n hx hb dX12_digest_267 rfl (lv_at hl 1 rfl) ?_
        refine lv_aload_n hx hb dX12_digest_268 rfl (lv_at hl 0 rfl) ?_
        refine rt_get F hP (rt_c12 _ rt_k0) (rt_l12 rt_k0) inX12 rfl 2 (by decide) kw_1142 rfl rfl dX12_digest_269 ?_
        refine rt_get F hP (rt_c9 _ rt_k6) (rt_l9 rt_k6) inX9 rfl 4 (by decide) kw_1012 rfl rfl dX12_digest_272 ?_
        refine lv_iload_n hx hb dX12_digest_275 rfl (lv_at hl 2 rfl) ?_
        have hv276 := hw.1
        replace hw := hw.2
        refine rt_iald F hP rt_a9 hv276 dX12_digest_276 ?_
        refine lv_i2l hx hb dX12_digest_277 rfl ?_
        refine rt_calll (rt_runS (n := 2) (As := [.long x1, .long (Int32.toInt64 (M 9 (Int32.toNatClampNeg x3)))]) (rest := []) F hP hN hS (rt_frs hS.1) (mtX12_add l D cA ad hI _ x1 (Int32.toInt64 (M 9 (Int32.toNatClampNeg x3))) M _ hw) kw_1638 kw_1636 kw_60 kw_1637 ⟨by decide, by decide, by decide +kernel⟩ ⟨rfl, rfl, Nat.le_of_ble_eq_true rfl, Nat.le_of_ble_eq_true rfl⟩ rfl hl.1 rfl (Nat.le_of_ble_eq_true rfl) dX12_digest_278 ⟨Nat.zero_le _, Nat.zero_le _⟩) hS (fun _ h => h) (fun r_278 M_278 H locs hw hP hS _ _ => ?_)
        refine lv_lstore_n (lv' := [(1, .long r_278), (0, .ref (ad 0)), (3, .int x3)]) hx hb dX12_digest_281 rfl hl (by decide) rfl (fun ls hl => ?_)
        obtain ⟨x3_282, ex3_282⟩ : ∃ y : Int32, y = x3 + 1 := ⟨_, rfl⟩
        replace hw := hw x3_282 ex3_282
        refine lv_iinc (v := x3_282) (lv' := [(3, .int x3_282), (1, .long r_278), (0, .ref (ad 0))]) hx hb dX12_digest_282 hl (k := 2) rfl (by rw [ex3_282]; rfl) (by decide) rfl (fun ls hl => ?_)
        refine lv_goto (tgt := 262) hx hb dX12_digest_285 (by decide) ?_
        exact ih262 r_278 x3_282 M_278 _ _ _ hw hP hS (lv_sub hl [2, 1, 0] rfl)
  have L147 : ∀ (n147 : Nat) (x1 : Int64) (x3 : Int32) (M : pt_M) (H : Heap) (locs : List Loc) (ls : Array Slot), lpX12_digest_147 Q n147 x1 x3 M → va_P D pt_cl (rt_W cA ad M) H → va_S (rt_fr ad s.heap.size) s.heap H locs → lv_has ls 5 [(0, .ref (ad 0)), (1, .long x1), (3, .int x3)] → W p l e (headSpec (Cond.code yX12_digest cX12_digest 5 (some .long) :: lw_all) ({ frames := 7, cells := 0, slots := 0, locals := 151 } : Room)).room s m ([.ref (ad 0)] : List Value).toArray below meth c H locs 0 0 (MQ below (va_Ql Q (rt_B D cA ad) (rt_fr ad s.heap.size)) ([.ref (ad 0)] : List Value).toArray s 0 0 (rt_fr ad s.heap.size)) (F0 m 147 ls []) := by
    intro n147
    induction n147 with
    | zero => intro x1 x3 M H locs ls hw; exact hw.elim
    | succ n147 ih147 =>
      have J254 : ∀ (x1 : Int64) (x3 : Int32) (M : pt_M) (H : Heap) (locs : List Loc) (ls : Array Slot), wjX12_digest_254 Q (lpX12_digest_147 Q n147) x1 x3 M → va_P D pt_cl (rt_W cA ad M) H → va_S (rt_fr ad s.heap.size) s.heap H locs → lv_has ls 5 [(0, .ref (ad 0)), (1, .long x1), (3, .int x3)] → W p l e (headSpec (Cond.code yX12_digest cX12_digest 5 (some .long) :: lw_all) ({ frames := 7, cells := 0, slots := 0, locals := 151 } : Room)).room s m ([.ref (ad 0)] : List Value).toArray below meth c H locs 0 0 (MQ below (va_Ql Q (rt_B D cA ad) (rt_fr ad s.heap.size)) ([.ref (ad 0)] : List Value).toArray s 0 0 (rt_fr ad s.heap.size)) (F0 m 254 ls []) := by
        intro x1 x3 M H locs ls hw hP hS hl
        unfold wjX12_digest_254 at hw
        obtain ⟨x3_254, ex3_254⟩ : ∃ y : Int32, y = x3 + 1 := ⟨_, rfl⟩
        replace hw := hw x3_254 ex3_254
        refine lv_iinc (v := x3_254) (lv' := [(3, .int x3_254), (0, .ref (ad 0)), (1, .long x1)]) hx hb dX12_digest_254 hl (k := 2) rfl (by rw [ex3_254]; rfl) (by decide) rfl (fun ls hl => ?_)
        refine lv_goto (tgt := 147) hx hb dX12_digest_257 (by decide) ?_
        exact ih147 x1 x3_254 M _ _ _ hw hP hS (lv_sub hl [1, 2, 0] rfl)
      have J206 : ∀ (x3 : Int32) (xs0 : Int64) (xs1 : Int64) (M : pt_M) (H : Heap) (locs : List Loc) (ls : Array Slot), wjX12_digest_206 Q (lpX12_digest_147 Q n147) x3 xs0 xs1 M → va_P D pt_cl (rt_W cA ad M) H → va_S (rt_fr ad s.heap.size) s.heap H locs → lv_has ls 5 [(0, .ref (ad 0)), (3, .int x3)] → W p l e (headSpec (Cond.code yX12_digest cX12_digest 5 (some .long) :: lw_all) ({ frames := 7, cells := 0, slots := 0, locals := 151 } : Room)).room s m ([.ref (ad 0)] : List Value).toArray below meth c H locs 0 0 (MQ below (va_Ql Q (rt_B D cA ad) (rt_fr ad s.heap.size)) ([.ref (ad 0)] : List Value).toArray s 0 0 (rt_fr ad s.heap.size)) (F0 m 206 ls [.long xs1, .long xs0]) := by
        intro x3 xs0 xs1 M H locs ls hw hP hS hl
        unfold wjX12_digest_206 at hw
        refine rt_calll (rt_runS (n := 2) (As := [.long xs0, .long xs1]) (rest := []) F hP hN hS (rt_frs hS.1) (mtX12_add l D cA ad hI _ xs0 xs1 M _ hw) kw_1638 kw_1636 kw_60 kw_1637 ⟨by decide, by decide, by decide +kernel⟩ ⟨rfl, rfl, Nat.le_of_ble_eq_true rfl, Nat.le_of_ble_eq_true rfl⟩ rfl hl.1 rfl (Nat.le_of_ble_eq_true rfl) dX12_digest_206 ⟨Nat.zero_le _, Nat.zero_le _⟩) hS (fun _ h => h) (fun r_206 M_206 H locs hw hP hS _ _ => ?_)
        refine lv_aload_n hx hb dX12_digest_209 rfl (lv_at hl 0 rfl) ?_
        refine lv_iload_n hx hb dX12_digest_210 rfl (lv_at hl 1 rfl) ?_
        refine rt_calli (rt_runV (n := 1) (As := [.int x3]) (rest := [.long r_206]) F hP hN hS (rt_frs hS.1) (rt_c12 _ rt_k0) (rt_l12 rt_k0) rfl (mtX12_age l D cA ad hI _ x3 M_206 _ hw) kw_1508 kw_1505 kw_60 kw_1507 kw_46 ⟨by decide, by decide, by decide +kernel⟩ ⟨rfl, rfl, Nat.le_of_ble_eq_true rfl, Nat.le_of_ble_eq_true rfl⟩ rfl hl.1 rfl (Nat.le_of_ble_eq_true rfl) dX12_digest_211 ⟨Nat.zero_le _, Nat.zero_le _⟩) hS (fun _ h => h) (fun r_211 M_211 H locs hw hP hS _ _ => ?_)
        refine lv_i2l hx hb dX12_digest_214 rfl ?_
        refine rt_calll (rt_runS (n := 2) (As := [.long r_206, .long (Int32.toInt64 r_211)]) (rest := []) F hP hN hS (rt_frs hS.1) (mtX12_add l D cA ad hI _ r_206 (Int32.toInt64 r_211) M_211 _ hw) kw_1638 kw_1636 kw_60 kw_1637 ⟨by decide, by decide, by decide +kernel⟩ ⟨rfl, rfl, Nat.le_of_ble_eq_true rfl, Nat.le_of_ble_eq_true rfl⟩ rfl hl.1 rfl (Nat.le_of_ble_eq_true rfl) dX12_digest_215 ⟨Nat.zero_le _, Nat.zero_le _⟩) hS (fun _ h => h) (fun r_215 M_215 H locs hw hP hS _ _ => ?_)
        refine lv_lstore_n (lv' := [(1, .long r_215), (0, .ref (ad 0)), (3, .int x3)]) hx hb dX12_digest_218 rfl hl (by decide) rfl (fun ls hl => ?_)
        refine lv_aload_n hx hb dX12_digest_219 rfl (lv_at hl 1 rfl) ?_
        refine rt_get F hP (rt_c12 _ rt_k0) (rt_l12 rt_k0) inX12 rfl 1 (by decide) kw_1140 rfl rfl dX12_digest_220 ?_
        refine rt_get F hP (rt_c8 _ rt_k1) (rt_l8 rt_k1) inX8 rfl 0 (by decide) kw_985 rfl rfl dX12_digest_223 ?_
        refine lv_iload_n hx hb dX12_digest_226 rfl (lv_at hl 2 rfl) ?_
        refine rt_call4 (rt_runV (n := 1) (As := [.int x3]) (rest := []) F hP hN hS (rt_frs hS.1) (rt_c13 _ rt_k2) (rt_l13 rt_k2) rfl (mtJx4a65c_get_915e3 l D cA ad hI _ x3 M_215 _ hw) kw_1186 kw_1183 kw_64 kw_1184 kw_1185 ⟨by decide, by decide, by decide +kernel⟩ ⟨rfl, rfl, (Nat.le_of_ble_eq_true rfl), (Nat.le_of_ble_eq_true rfl)⟩ rfl hl.1 rfl (Nat.le_of_ble_eq_true rfl) dX12_digest_227 ⟨Nat.zero_le _, Nat.zero_le _⟩) hS (fun _ h => h) (fun M_227 H locs hw hP hS _ _ => ?_)
        refine rt_cast4 F hP kw_1046 dX12_digest_230 ?_
        refine rt_calli (rt_runV (n := 0) (As := []) (rest := []) F hP hN hS (rt_frs hS.1) (rt_c10 _ rt_k4) (rt_l10 rt_k4) rfl (mtX10_isMark l D cA ad hI _ M_227 _ hw) kw_1223 kw_1241 kw_66 kw_1221 kw_1222 ⟨by decide, by decide, by decide +kernel⟩ ⟨rfl, rfl, Nat.le_of_ble_eq_true rfl, Nat.le_of_ble_eq_true rfl⟩ rfl hl.1 rfl (Nat.le_of_ble_eq_true rfl) dX12_digest_233 ⟨Nat.zero_le _, Nat.zero_le _⟩) hS (fun _ h => h) (fun r_233 M_233 H locs hw hP hS _ _ => ?_)
        refine lv_if_eq (tgt := 254) hx hb dX12_digest_236 (by decide) (fun hc236 => ?_) (fun hc236 => ?_)
        · replace hw := hw.1 hc236
          exact J254 r_215 x3 M_233 _ _ _ hw hP hS (lv_sub hl [1, 0, 2] rfl)
        · replace hw := hw.2 hc236
          refine lv_lload_n hx hb dX12_digest_239 rfl (lv_at hl 0 rfl) ?_
          refine lv_aload_n hx hb dX12_digest_240 rfl (lv_at hl 1 rfl) ?_
          refine rt_get F hP (rt_c12 _ rt_k0) (rt_l12 rt_k0) inX12 rfl 2 (by decide) kw_1142 rfl rfl dX12_digest_241 ?_
          refine rt_get F hP (rt_c9 _ rt_k6) (rt_l9 rt_k6) inX9 rfl 3 (by decide) kw_1010 rfl rfl dX12_digest_244 ?_
          refine lv_iload_n hx hb dX12_digest_247 rfl (lv_at hl 2 rfl) ?_
          have hv248 := hw.1
          replace hw := hw.2
          refine rt_iald F hP rt_a8 hv248 dX12_digest_248 ?_
          refine lv_i2l hx hb dX12_digest_249 rfl ?_
          refine rt_calll (rt_runS (n := 2) (As := [.long r_215, .long (Int32.toInt64 (M_233 8 (Int32.toNatClampNeg x3)))]) (rest := []) F hP hN hS (rt_frs hS.1) (mtX12_add l D cA ad hI _ r_215 (Int32.toInt64 (M_233 8 (Int32.toNatClampNeg x3))) M_233 _ hw) kw_1638 kw_1636 kw_60 kw_1637 ⟨by decide, by decide, by decide +kernel⟩ ⟨rfl, rfl, Nat.le_of_ble_eq_true rfl, Nat.le_of_ble_eq_true rfl⟩ rfl hl.1 rfl (Nat.le_of_ble_eq_true rfl) dX12_digest_250 ⟨Nat.zero_le _, Nat.zero_le _⟩) hS (fun _ h => h) (fun r_250 M_250 H locs hw hP hS _ _ => ?_)
          refine lv_lstore_n (lv' := [(1, .long r_250), (0, .ref (ad 0)), (3, .int x3)]) hx hb dX12_digest_253 rfl hl (by decide) rfl (fun ls hl => ?_)
          exact J254 r_250 x3 M_250 _ _ _ hw hP hS (lv_sub hl [1, 0, 2] rfl)
      have L164 : ∀ (n164 : Nat) (x1 : Int64) (x3 : Int32) (x4 : Int32) (M : pt_M) (H : Heap) (locs : List Loc) (ls : Array Slot), lpX12_digest_164 Q (lpX12_digest_147 Q n147) n164 x1 x3 x4 M → va_P D pt_cl (rt_W cA ad M) H → va_S (rt_fr ad s.heap.size) s.heap H locs → lv_has ls 5 [(0, .ref (ad 0)), (1, .long x1), (3, .int x3), (4, .int x4)] → W p l e (headSpec (Cond.code yX12_digest cX12_digest 5 (some .long) :: lw_all) ({ frames := 7, cells := 0, slots := 0, locals := 151 } : Room)).room s m ([.ref (ad 0)] : List Value).toArray below meth c H locs 0 0 (MQ below (va_Ql Q (rt_B D cA ad) (rt_fr ad s.heap.size)) ([.ref (ad 0)] : List Value).toArray s 0 0 (rt_fr ad s.heap.size)) (F0 m 164 ls []) := by
        intro n164
        induction n164 with
        | zero => intro x1 x3 x4 M H locs ls hw; exact hw.elim
        | succ n164 ih164 =>
          intro x1 x3 x4 M H locs ls hw hP hS hl
          replace hw : lbX12_digest_164 Q (lpX12_digest_147 Q n147) (lpX12_digest_164 Q (lpX12_digest_147 Q n147) n164) x1 x3 x4 M := hw
          unfold lbX12_digest_164 at hw
          refine lv_iload hx hb dX12_digest_164 (lv_at hl 3 rfl) ?_
          refine lv_iconst (v := 4) hx hb dX12_digest_166 (by decide) ?_
          refine lv_icmp_ge (tgt := 189) hx hb dX12_digest_167 (by decide) (fun hc167 => ?_) (fun hc167 => ?_)
          · replace hw := hw.1 hc167
            refine lv_lload_n hx hb dX12_digest_189 rfl (lv_at hl 1 rfl) ?_
            refine lv_aload_n hx hb dX12_digest_190 rfl (lv_at hl 0 rfl) ?_
            refine rt_get F hP (rt_c12 _ rt_k0) (rt_l12 rt_k0) inX12 rfl 2 (by decide) kw_1142 rfl rfl dX12_digest_191 ?_
            refine lv_iload_n hx hb dX12_digest_194 rfl (lv_at hl 2 rfl) ?_
            refine rt_calli (rt_runV (n := 1) (As := [.int x3]) (rest := [.long x1]) F hP hN hS (rt_frs hS.1) (rt_c9 _ rt_k6) (rt_l9 rt_k6) rfl (mtX9_isEnded l D cA ad hI _ x3 M _ hw) kw_1389 kw_1500 kw_65 kw_1387 kw_1388 ⟨by decide, by decide, by decide +kernel⟩ ⟨rfl, rfl, Nat.le_of_ble_eq_true rfl, Nat.le_of_ble_eq_true rfl⟩ rfl hl.1 rfl (Nat.le_of_ble_eq_true rfl) dX12_digest_195 ⟨Nat.zero_le _, Nat.zero_le _⟩) hS (fun _ h => h) (fun r_195 M_195 H locs hw hP hS _ _ => ?_)
            refine lv_if_eq (tgt := 205) hx hb dX12_digest_198 (by decide) (fun hc198 => ?_) (fun hc198 => ?_)
            · replace hw := hw.1 hc198
              refine lv_lconst (v := 0) hx hb dX12_digest_205 rfl ?_
              exact J206 x3 x1 0 M_195 _ _ _ hw hP hS (lv_sub hl [0, 2] rfl)
            · replace hw := hw.2 hc198
              refine lv_lconst (v := 1) hx hb dX12_digest_201 rfl ?_
              refine lv_goto (tgt := 206) hx hb dX12_digest_202 (by decide) ?_
              exact J206 x3 x1 1 M_195 _ _ _ hw hP hS (lv_sub hl [0, 2] rfl)
          · replace hw := hw.2 hc167
            refine lv_lload_n hx hb dX12_digest_170 rfl (lv_at hl 1 rfl) ?_
            refine lv_aload_n hx hb dX12_digest_171 rfl (lv_at hl 0 rfl) ?_
            refine lv_iload_n hx hb dX12_digest_172 rfl (lv_at hl 2 rfl) ?_
            refine lv_iload hx hb dX12_digest_173 (lv_at hl 3 rfl) ?_
            refine rt_calli (rt_runV (n := 2) (As := [.int x3, .int x4]) (rest := [.long x1]) F hP hN hS (rt_frs hS.1) (rt_c12 _ rt_k0) (rt_l12 rt_k0) rfl (mtX12_of l D cA ad hI _ x3 x4 M _ hw) kw_1481 kw_1478 kw_60 kw_1480 kw_45 ⟨by decide, by decide, by decide +kernel⟩ ⟨rfl, rfl, Nat.le_of_ble_eq_true rfl, Nat.le_of_ble_eq_true rfl⟩ rfl hl.1 rfl (Nat.le_of_ble_eq_true rfl) dX12_digest_175 ⟨Nat.zero_le _, Nat.zero_le _⟩) hS (fun _ h => h) (fun r_175 M_175 H locs hw hP hS _ _ => ?_)
            refine lv_i2l hx hb dX12_digest_178 rfl ?_
            refine rt_calll (rt_runS (n := 2) (As := [.long x1, .long (Int32.toInt64 r_175)]) (rest := []) F hP hN hS (rt_frs hS.1) (mtX12_add l D cA ad hI _ x1 (Int32.toInt64 r_175) M_175 _ hw) kw_1638 kw_1636 kw_60 kw_1637 ⟨by decide, by decide, by decide +kernel⟩ ⟨rfl, rfl, Nat.le_of_ble_eq_true rfl, Nat.le_of_ble_eq_true rfl⟩ rfl hl.1 rfl (Nat.le_of_ble_eq_true rfl) dX12_digest_179 ⟨Nat.zero_le _, Nat.zero_le _⟩) hS (fun _ h => h) (fun r_179 M_179 H locs hw hP hS _ _ => ?_)
            refine lv_lstore_n (lv' := [(1, .long r_179), (0, .ref (ad 0)), (3, .int x3), (4, .int x4)]) hx hb dX12_digest_182 rfl hl (by decide) rfl (fun ls hl => ?_)
            obtain ⟨x4_183, ex4_183⟩ : ∃ y : Int32, y = x4 + 1 := ⟨_, rfl⟩
            replace hw := hw x4_183 ex4_183
            refine lv_iinc (v := x4_183) (lv' := [(4, .int x4_183), (1, .long r_179), (0, .ref (ad 0)), (3, .int x3)]) hx hb dX12_digest_183 hl (k := 3) rfl (by rw [ex4_183]; rfl) (by decide) rfl (fun ls hl => ?_)
            refine lv_goto (tgt := 164) hx hb dX12_digest_186 (by decide) ?_
            exact ih164 r_179 x3 x4_183 M_179 _ _ _ hw hP hS (lv_sub hl [2, 1, 3, 0] rfl)
      intro x1 x3 M H locs ls hw hP hS hl
      replace hw : lbX12_digest_147 Q (lpX12_digest_147 Q n147) x1 x3 M := hw
      unfold lbX12_digest_147 at hw
      refine lv_iload_n hx hb dX12_digest_147 rfl (lv_at hl 2 rfl) ?_
      refine lv_aload_n hx hb dX12_digest_148 rfl (lv_at hl 0 rfl) ?_
      refine rt_get F hP (rt_c12 _ rt_k0) (rt_l12 rt_k0) inX12 rfl 1 (by decide) kw_1140 rfl rfl dX12_digest_149 ?_
      refine rt_get F hP (rt_c8 _ rt_k1) (rt_l8 rt_k1) inX8 rfl 0 (by decide) kw_985 rfl rfl dX12_digest_152 ?_
      refine rt_calli (rt_runV (n := 0) (As := []) (rest := [.int x3]) F hP hN hS (rt_frs hS.1) (rt_c13 _ rt_k2) (rt_l13 rt_k2) rfl (mtJx4a65c_size_8abf5 l D cA ad hI _ 2 rt_k2 M _ hw) kw_1167 kw_1164 kw_64 kw_1165 kw_1166 ⟨by decide, by decide, by decide +kernel⟩ ⟨rfl, rfl, Nat.le_of_ble_eq_true rfl, Nat.le_of_ble_eq_true rfl⟩ rfl hl.1 rfl (Nat.le_of_ble_eq_true rfl) dX12_digest_155 ⟨Nat.zero_le _, Nat.zero_le _⟩) hS (fun _ h => h) (fun r_155 M_155 H locs hw hP hS _ _ => ?_)
      refine lv_icmp_ge (tgt := 260) hx hb dX12_digest_158 (by decide) (fun hc158 => ?_) (fun hc158 => ?_)
      · replace hw := hw.1 hc158
        refine lv_iconst (v := 0) hx hb dX12_digest_260 (by decide) ?_
        refine lv_istore_n (lv' := [(3, .int 0), (0, .ref (ad 0)), (1, .long x1)]) hx hb dX12_digest_261 rfl hl (by decide) rfl (fun ls hl => ?_)
        obtain ⟨n_, hw⟩ := hw
        exact L262 n_ x1 0 M_155 _ _ _ hw hP hS (lv_sub hl [1, 2, 0] rfl)
      · replace hw := hw.2 hc158
        refine lv_iconst (v := 0) hx hb dX12_digest_161 (by decide) ?_
        refine lv_istore (lv' := [(4, .int 0), (0, .ref (ad 0)), (1, .long x1), (3, .int x3)]) hx hb dX12_digest_162 hl (by decide) rfl (fun ls hl => ?_)
        obtain ⟨n_, hw⟩ := hw
        exact L164 n_ x1 x3 0 M_155 _ _ _ hw hP hS (lv_sub hl [1, 2, 3, 0] rfl)
  have J92 : ∀ (xs0 : Int64) (xs1 : Int64) (M : pt_M) (H : Heap) (locs : List Loc) (ls : Array Slot), wjX12_digest_92 Q xs0 xs1 M → va_P D pt_cl (rt_W cA ad M) H → va_S (rt_fr ad s.heap.size) s.heap H locs → lv_has ls 5 [(0, .ref (ad 0))] → W p l e (headSpec (Cond.code yX12_digest cX12_digest 5 (some .long) :: lw_all) ({ frames := 7, cells := 0, slots := 0, locals := 151 } : Room)).room s m ([.ref (ad 0)] : List Value).toArray below meth c H locs 0 0 (MQ below (va_Ql Q (rt_B D cA ad) (rt_fr ad s.heap.size)) ([.ref (ad 0)] : List Value).toArray s 0 0 (rt_fr ad s.heap.size)) (F0 m 92 ls [.long xs1, .long xs0]) := by
    intro xs0 xs1 M H locs ls hw hP hS hl
    unfold wjX12_digest_92 at hw
    refine rt_calll (rt_runS (n := 2) (As := [.long xs0, .long xs1]) (rest := []) F hP hN hS (rt_frs hS.1) (mtX12_add l D cA ad hI _ xs0 xs1 M _ hw) kw_1638 kw_1636 kw_60 kw_1637 ⟨by decide, by decide, by decide +kernel⟩ ⟨rfl, rfl, Nat.le_of_ble_eq_true rfl, Nat.le_of_ble_eq_true rfl⟩ rfl hl.1 rfl (Nat.le_of_ble_eq_true rfl) dX12_digest_92 ⟨Nat.zero_le _, Nat.zero_le _⟩) hS (fun _ h => h) (fun r_92 M_92 H locs hw hP hS _ _ => ?_)
    refine lv_aload_n hx hb dX12_digest_95 rfl (lv_at hl 0 rfl) ?_
    refine rt_get F hP (rt_c12 _ rt_k0) (rt_l12 rt_k0) inX12 rfl 2 (by decide) kw_1142 rfl rfl dX12_digest_96 ?_
    refine rt_get F hP (rt_c9 _ rt_k6) (rt_l9 rt_k6) inX9 rfl 7 (by decide) kw_1017 rfl rfl dX12_digest_99 ?_
    refine lv_i2l hx hb dX12_digest_102 rfl ?_
    refine rt_calll (rt_runS (n := 2) (As := [.long r_92, .long (Int32.toInt64 (M_92 6 7))]) (rest := []) F hP hN hS (rt_frs hS.1) (mtX12_add l D cA ad hI _ r_92 (Int32.toInt64 (M_92 6 7)) M_92 _ hw) kw_1638 kw_1636 kw_60 kw_1637 ⟨by decide, by decide, by decide +kernel⟩ ⟨rfl, rfl, Nat.le_of_ble_eq_true rfl, Nat.le_of_ble_eq_true rfl⟩ rfl hl.1 rfl (Nat.le_of_ble_eq_true rfl) dX12_digest_103 ⟨Nat.zero_le _, Nat.zero_le _⟩) hS (fun _ h => h) (fun r_103 M_103 H locs hw hP hS _ _ => ?_)
    refine lv_aload_n hx hb dX12_digest_106 rfl (lv_at hl 0 rfl) ?_
    refine rt_calli (rt_runV (n := 0) (As := []) (rest := [.long r_103]) F hP hN hS (rt_frs hS.1) (rt_c12 _ rt_k0) (rt_l12 rt_k0) rfl (mtX12_covers l D cA ad hI _ M_103 _ hw) kw_1532 kw_1529 kw_60 kw_1531 kw_47 ⟨by decide, by decide, by decide +kernel⟩ ⟨rfl, rfl, Nat.le_of_ble_eq_true rfl, Nat.le_of_ble_eq_true rfl⟩ rfl hl.1 rfl (Nat.le_of_ble_eq_true rfl) dX12_digest_107 ⟨Nat.zero_le _, Nat.zero_le _⟩) hS (fun _ h => h) (fun r_107 M_107 H locs hw hP hS _ _ => ?_)
    refine lv_i2l hx hb dX12_digest_110 rfl ?_
    refine rt_calll (rt_runS (n := 2) (As := [.long r_103, .long (Int32.toInt64 r_107)]) (rest := []) F hP hN hS (rt_frs hS.1) (mtX12_add l D cA ad hI _ r_103 (Int32.toInt64 r_107) M_107 _ hw) kw_1638 kw_1636 kw_60 kw_1637 ⟨by decide, by decide, by decide +kernel⟩ ⟨rfl, rfl, Nat.le_of_ble_eq_true rfl, Nat.le_of_ble_eq_true rfl⟩ rfl hl.1 rfl (Nat.le_of_ble_eq_true rfl) dX12_digest_111 ⟨Nat.zero_le _, Nat.zero_le _⟩) hS (fun _ h => h) (fun r_111 M_111 H locs hw hP hS _ _ => ?_)
    refine lv_aload_n hx hb dX12_digest_114 rfl (lv_at hl 0 rfl) ?_
    refine rt_get F hP (rt_c12 _ rt_k0) (rt_l12 rt_k0) inX12 rfl 2 (by decide) kw_1142 rfl rfl dX12_digest_115 ?_
    refine rt_get F hP (rt_c9 _ rt_k6) (rt_l9 rt_k6) inX9 rfl 8 (by decide) kw_1019 rfl rfl dX12_digest_118 ?_
    refine lv_i2l hx hb dX12_digest_121 rfl ?_
    refine rt_calll (rt_runS (n := 2) (As := [.long r_111, .long (Int32.toInt64 (M_111 6 8))]) (rest := []) F hP hN hS (rt_frs hS.1) (mtX12_add l D cA ad hI _ r_111 (Int32.toInt64 (M_111 6 8)) M_111 _ hw) kw_1638 kw_1636 kw_60 kw_1637 ⟨by decide, by decide, by decide +kernel⟩ ⟨rfl, rfl, Nat.le_of_ble_eq_true rfl, Nat.le_of_ble_eq_true rfl⟩ rfl hl.1 rfl (Nat.le_of_ble_eq_true rfl) dX12_digest_122 ⟨Nat.zero_le _, Nat.zero_le _⟩) hS (fun _ h => h) (fun r_122 M_122 H locs hw hP hS _ _ => ?_)
    refine lv_aload_n hx hb dX12_digest_125 rfl (lv_at hl 0 rfl) ?_
    refine rt_get F hP (rt_c12 _ rt_k0) (rt_l12 rt_k0) inX12 rfl 2 (by decide) kw_1142 rfl rfl dX12_digest_126 ?_
    refine rt_get F hP (rt_c9 _ rt_k6) (rt_l9 rt_k6) inX9 rfl 9 (by decide) kw_1021 rfl rfl dX12_digest_129 ?_
    refine lv_i2l hx hb dX12_digest_132 rfl ?_
    refine rt_calll (rt_runS (n := 2) (As := [.long r_122, .long (Int32.toInt64 (M_122 6 9))]) (rest := []) F hP hN hS (rt_frs hS.1) (mtX12_add l D cA ad hI _ r_122 (Int32.toInt64 (M_122 6 9)) M_122 _ hw) kw_1638 kw_1636 kw_60 kw_1637 ⟨by decide, by decide, by decide +kernel⟩ ⟨rfl, rfl, Nat.le_of_ble_eq_true rfl, Nat.le_of_ble_eq_true rfl⟩ rfl hl.1 rfl (Nat.le_of_ble_eq_true rfl) dX12_digest_133 ⟨Nat.zero_le _, Nat.zero_le _⟩) hS (fun _ h => h) (fun r_133 M_133 H locs hw hP hS _ _ => ?_)
    refine lv_aload_n hx hb dX12_digest_136 rfl (lv_at hl 0 rfl) ?_
    refine rt_get F hP (rt_c12 _ rt_k0) (rt_l12 rt_k0) inX12 rfl 4 (by decide) kw_1144 rfl rfl dX12_digest_137 ?_
    refine lv_i2l hx hb dX12_digest_140 rfl ?_
    refine rt_calll (rt_runS (n := 2) (As := [.long r_133, .long (Int32.toInt64 (M_133 0 4))]) (rest := []) F hP hN hS (rt_frs hS.1) (mtX12_add l D cA ad hI _ r_133 (Int32.toInt64 (M_133 0 4)) M_133 _ hw) kw_1638 kw_1636 kw_60 kw_1637 ⟨by decide, by decide, by decide +kernel⟩ ⟨rfl, rfl, Nat.le_of_ble_eq_true rfl, Nat.le_of_ble_eq_true rfl⟩ rfl hl.1 rfl (Nat.le_of_ble_eq_true rfl) dX12_digest_141 ⟨Nat.zero_le _, Nat.zero_le _⟩) hS (fun _ h => h) (fun r_141 M_141 H locs hw hP hS _ _ => ?_)
    refine lv_lstore_n (lv' := [(1, .long r_141), (0, .ref (ad 0))]) hx hb dX12_digest_144 rfl hl (by decide) rfl (fun ls hl => ?_)
    refine lv_iconst (v := 0) hx hb dX12_digest_145 (by decide) ?_
    refine lv_istore_n (lv' := [(3, .int 0), (1, .long r_141), (0, .ref (ad 0))]) hx hb dX12_digest_146 rfl hl (by decide) rfl (fun ls hl => ?_)
    obtain ⟨n_, hw⟩ := hw
    exact L147 n_ r_141 0 M_141 _ _ _ hw hP hS (lv_sub hl [2, 1, 0] rfl)
  have J91 : ∀ (xs0 : Int64) (M : pt_M) (H : Heap) (locs : List Loc) (ls : Array Slot), wjX12_digest_91 Q xs0 M → va_P D pt_cl (rt_W cA ad M) H → va_S (rt_fr ad s.heap.size) s.heap H locs → lv_has ls 5 [(0, .ref (ad 0))] → W p l e (headSpec (Cond.code yX12_digest cX12_digest 5 (some .long) :: lw_all) ({ frames := 7, cells := 0, slots := 0, locals := 151 } : Room)).room s m ([.ref (ad 0)] : List Value).toArray below meth c H locs 0 0 (MQ below (va_Ql Q (rt_B D cA ad) (rt_fr ad s.heap.size)) ([.ref (ad 0)] : List Value).toArray s 0 0 (rt_fr ad s.heap.size)) (F0 m 91 ls [.long xs0]) := by
    intro xs0 M H locs ls hw hP hS hl
    unfold wjX12_digest_91 at hw
    refine lv_lconst (v := 0) hx hb dX12_digest_91 rfl ?_
    exact J92 xs0 0 M _ _ _ hw hP hS (lv_sub hl [0] rfl)
  have J51 : ∀ (xs0 : Int64) (xs1 : Int64) (M : pt_M) (H : Heap) (locs : List Loc) (ls : Array Slot), wjX12_digest_51 Q xs0 xs1 M → va_P D pt_cl (rt_W cA ad M) H → va_S (rt_fr ad s.heap.size) s.heap H locs → lv_has ls 5 [(0, .ref (ad 0))] → W p l e (headSpec (Cond.code yX12_digest cX12_digest 5 (some .long) :: lw_all) ({ frames := 7, cells := 0, slots := 0, locals := 151 } : Room)).room s m ([.ref (ad 0)] : List Value).toArray below meth c H locs 0 0 (MQ below (va_Ql Q (rt_B D cA ad) (rt_fr ad s.heap.size)) ([.ref (ad 0)] : List Value).toArray s 0 0 (rt_fr ad s.heap.size)) (F0 m 51 ls [.long xs1, .long xs0]) := by
    intro xs0 xs1 M H locs ls hw hP hS hl
    unfold wjX12_digest_51 at hw
    refine rt_calll (rt_runS (n := 2) (As := [.long xs0, .long xs1]) (rest := []) F hP hN hS (rt_frs hS.1) (mtX12_add l D cA ad hI _ xs0 xs1 M _ hw) kw_1638 kw_1636 kw_60 kw_1637 ⟨by decide, by decide, by decide +kernel⟩ ⟨rfl, rfl, Nat.le_of_ble_eq_true rfl, Nat.le_of_ble_eq_true rfl⟩ rfl hl.1 rfl (Nat.le_of_ble_eq_true rfl) dX12_digest_51 ⟨Nat.zero_le _, Nat.zero_le _⟩) hS (fun _ h => h) (fun r_51 M_51 H locs hw hP hS _ _ => ?_)
    refine lv_aload_n hx hb dX12_digest_54 rfl (lv_at hl 0 rfl) ?_
    refine rt_get F hP (rt_c12 _ rt_k0) (rt_l12 rt_k0) inX12 rfl 2 (by decide) kw_1142 rfl rfl dX12_digest_55 ?_
    refine rt_get F hP (rt_c9 _ rt_k6) (rt_l9 rt_k6) inX9 rfl 1 (by decide) kw_1006 rfl rfl dX12_digest_58 ?_
    refine lv_i2l hx hb dX12_digest_61 rfl ?_
    refine rt_calll (rt_runS (n := 2) (As := [.long r_51, .long (Int32.toInt64 (M_51 6 1))]) (rest := []) F hP hN hS (rt_frs hS.1) (mtX12_add l D cA ad hI _ r_51 (Int32.toInt64 (M_51 6 1)) M_51 _ hw) kw_1638 kw_1636 kw_60 kw_1637 ⟨by decide, by decide, by decide +kernel⟩ ⟨rfl, rfl, Nat.le_of_ble_eq_true rfl, Nat.le_of_ble_eq_true rfl⟩ rfl hl.1 rfl (Nat.le_of_ble_eq_true rfl) dX12_digest_62 ⟨Nat.zero_le _, Nat.zero_le _⟩) hS (fun _ h => h) (fun r_62 M_62 H locs hw hP hS _ _ => ?_)
    refine lv_lstore_n (lv' := [(1, .long r_62), (0, .ref (ad 0))]) hx hb dX12_digest_65 rfl hl (by decide) rfl (fun ls hl => ?_)
    refine lv_lload_n hx hb dX12_digest_66 rfl (lv_at hl 0 rfl) ?_
    refine lv_aload_n hx hb dX12_digest_67 rfl (lv_at hl 1 rfl) ?_
    refine rt_get F hP (rt_c12 _ rt_k0) (rt_l12 rt_k0) inX12 rfl 2 (by decide) kw_1142 rfl rfl dX12_digest_68 ?_
    refine rt_get F hP (rt_c9 _ rt_k6) (rt_l9 rt_k6) inX9 rfl 0 (by decide) kw_1004 rfl rfl dX12_digest_71 ?_
    refine lv_if_eq (tgt := 91) hx hb dX12_digest_74 (by decide) (fun hc74 => ?_) (fun hc74 => ?_)
    · replace hw := hw.1 hc74
      exact J91 r_62 M_62 _ _ _ hw hP hS (lv_sub hl [1] rfl)
    · replace hw := hw.2 hc74
      refine lv_aload_n hx hb dX12_digest_77 rfl (lv_at hl 1 rfl) ?_
      refine rt_get F hP (rt_c12 _ rt_k0) (rt_l12 rt_k0) inX12 rfl 2 (by decide) kw_1142 rfl rfl dX12_digest_78 ?_
      refine rt_calli (rt_runV (n := 0) (As := []) (rest := [.long r_62]) F hP hN hS (rt_frs hS.1) (rt_c9 _ rt_k6) (rt_l9 rt_k6) rfl (mtX9_isOver l D cA ad hI _ M_62 _ hw) kw_1358 kw_1495 kw_65 kw_1356 kw_1357 ⟨by decide, by decide, by decide +kernel⟩ ⟨rfl, rfl, Nat.le_of_ble_eq_true rfl, Nat.le_of_ble_eq_true rfl⟩ rfl hl.1 rfl (Nat.le_of_ble_eq_true rfl) dX12_digest_81 ⟨Nat.zero_le _, Nat.zero_le _⟩) hS (fun _ h => h) (fun r_81 M_81 H locs hw hP hS _ _ => ?_)
      refine lv_if_eq (tgt := 91) hx hb dX12_digest_84 (by decide) (fun hc84 => ?_) (fun hc84 => ?_)
      · replace hw := hw.1 hc84
        exact J91 r_62 M_81 _ _ _ hw hP hS (lv_sub hl [1] rfl)
      · replace hw := hw.2 hc84
        refine lv_lconst (v := 1) hx hb dX12_digest_87 rfl ?_
        refine lv_goto (tgt := 92) hx hb dX12_digest_88 (by decide) ?_
        exact J92 r_62 1 M_81 _ _ _ hw hP hS (lv_sub hl [1] rfl)
  unfold wpX12_digest at hw
  refine lv_aload_n hx hb dX12_digest_0 rfl (lv_at hl 0 rfl) ?_
  refine lv_iconst (v := 0) hx hb dX12_digest_1 (by decide) ?_
  refine rt_put F hP hD hS (rt_c12 _ rt_k0) (rt_l12 rt_k0) inX12 tyX12 tyX12_ok nmX12 rfl 0 (by decide) kw_1139 rfl rfl rfl rfl (Nat.le_of_ble_eq_true rfl) (rt_c12 _ rt_k0) dX12_digest_2 (fun M_2 H locs eM_2 hP hS => ?_)
  replace hw := hw M_2 eM_2
  refine lv_ldc2 (v := 58059) hx hb hown (F.1.2.2.2.2 _ kw_1635) dX12_digest_5 ?_
  refine lv_aload_n hx hb dX12_digest_8 rfl (lv_at hl 0 rfl) ?_
  refine rt_get F hP (rt_c12 _ rt_k0) (rt_l12 rt_k0) inX12 rfl 1 (by decide) kw_1140 rfl rfl dX12_digest_9 ?_
  refine rt_get F hP (rt_c8 _ rt_k1) (rt_l8 rt_k1) inX8 rfl 0 (by decide) kw_985 rfl rfl dX12_digest_12 ?_
  refine rt_calli (rt_runV (n := 0) (As := []) (rest := [.long 58059]) F hP hN hS (rt_frs hS.1) (rt_c13 _ rt_k2) (rt_l13 rt_k2) rfl (mtJx4a65c_size_8abf5 l D cA ad hI _ 2 rt_k2 M_2 _ hw) kw_1167 kw_1164 kw_64 kw_1165 kw_1166 ⟨by decide, by decide, by decide +kernel⟩ ⟨rfl, rfl, Nat.le_of_ble_eq_true rfl, Nat.le_of_ble_eq_true rfl⟩ rfl hl.1 rfl (Nat.le_of_ble_eq_true rfl) dX12_digest_15 ⟨Nat.zero_le _, Nat.zero_le _⟩) hS (fun _ h => h) (fun r_15 M_15 H locs hw hP hS _ _ => ?_)
  refine lv_i2l hx hb dX12_digest_18 rfl ?_
  refine rt_calll (rt_runS (n := 2) (As := [.long 58059, .long (Int32.toInt64 r_15)]) (rest := []) F hP hN hS (rt_frs hS.1) (mtX12_add l D cA ad hI _ 58059 (Int32.toInt64 r_15) M_15 _ hw) kw_1638 kw_1636 kw_60 kw_1637 ⟨by decide, by decide, by decide +kernel⟩ ⟨rfl, rfl, Nat.le_of_ble_eq_true rfl, Nat.le_of_ble_eq_true rfl⟩ rfl hl.1 rfl (Nat.le_of_ble_eq_true rfl) dX12_digest_19 ⟨Nat.zero_le _, Nat.zero_le _⟩) hS (fun _ h => h) (fun r_19 M_19 H locs hw hP hS _ _ => ?_)
  refine lv_aload_n hx hb dX12_digest_22 rfl (lv_at hl 0 rfl) ?_
  refine rt_get F hP (rt_c12 _ rt_k0) (rt_l12 rt_k0) inX12 rfl 1 (by decide) kw_1140 rfl rfl dX12_digest_23 ?_
  refine rt_get F hP (rt_c8 _ rt_k1) (rt_l8 rt_k1) inX8 rfl 1 (by decide) kw_988 rfl rfl dX12_digest_26 ?_
  refine rt_calli (rt_runV (n := 0) (As := []) (rest := [.long r_19]) F hP hN hS (rt_frs hS.1) (rt_c13 _ rt_k5) (rt_l13 rt_k5) rfl (mtJx4a65c_size_8abf5 l D cA ad hI _ 5 rt_k5 M_19 _ hw) kw_1167 kw_1164 kw_64 kw_1165 kw_1166 ⟨by decide, by decide, by decide +kernel⟩ ⟨rfl, rfl, Nat.le_of_ble_eq_true rfl, Nat.le_of_ble_eq_true rfl⟩ rfl hl.1 rfl (Nat.le_of_ble_eq_true rfl) dX12_digest_29 ⟨Nat.zero_le _, Nat.zero_le _⟩) hS (fun _ h => h) (fun r_29 M_29 H locs hw hP hS _ _ => ?_)
  refine lv_i2l hx hb dX12_digest_32 rfl ?_
  refine rt_calll (rt_runS (n := 2) (As := [.long r_19, .long (Int32.toInt64 r_29)]) (rest := []) F hP hN hS (rt_frs hS.1) (mtX12_add l D cA ad hI _ r_19 (Int32.toInt64 r_29) M_29 _ hw) kw_1638 kw_1636 kw_60 kw_1637 ⟨by decide, by decide, by decide +kernel⟩ ⟨rfl, rfl, Nat.le_of_ble_eq_true rfl, Nat.le_of_ble_eq_true rfl⟩ rfl hl.1 rfl (Nat.le_of_ble_eq_true rfl) dX12_digest_33 ⟨Nat.zero_le _, Nat.zero_le _⟩) hS (fun _ h => h) (fun r_33 M_33 H locs hw hP hS _ _ => ?_)
  refine lv_aload_n hx hb dX12_digest_36 rfl (lv_at hl 0 rfl) ?_
  refine rt_get F hP (rt_c12 _ rt_k0) (rt_l12 rt_k0) inX12 rfl 2 (by decide) kw_1142 rfl rfl dX12_digest_37 ?_
  refine rt_get F hP (rt_c9 _ rt_k6) (rt_l9 rt_k6) inX9 rfl 0 (by decide) kw_1004 rfl rfl dX12_digest_40 ?_
  refine lv_if_eq (tgt := 50) hx hb dX12_digest_43 (by decide) (fun hc43 => ?_) (fun hc43 => ?_)
  · replace hw := hw.1 hc43
    refine lv_lconst (v := 0) hx hb dX12_digest_50 rfl ?_
    exact J51 r_33 0 M_33 _ _ _ hw hP hS (lv_sub hl [0] rfl)
  · replace hw := hw.2 hc43
    refine lv_lconst (v := 1) hx hb dX12_digest_46 rfl ?_
    refine lv_goto (tgt := 51) hx hb dX12_digest_47 (by decide) ?_
    exact J51 r_33 1 M_33 _ _ _ hw hP hS (lv_sub hl [0] rfl)
