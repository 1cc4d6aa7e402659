-- ===== L_isSound
def wjL_isSound_273 (n0 : Nat) (f0 : Nat → Int32) (Q : Int32 → pt_M → Prop)  (xs0 : Int32) (M : pt_M) : Prop :=
  pt_zb xs0 ∧ Q xs0 M
def wjL_isSound_244 (n0 : Nat) (f0 : Nat → Int32) (Q : Int32 → pt_M → Prop) (R18 : Int32 → Int32 → Int32 → pt_M → Prop) (x2 : Int32) (x4 : Int32) (xs0 : Int32) (xs1 : Int32) (M : pt_M) : Prop :=
  ∀ x3_245 : Int32, x3_245 = (xs0 + xs1) → ∀ x4_246 : Int32, x4_246 = x4 + 1 → R18 x2 x3_245 x4_246 M
def wjL_isSound_228 (n0 : Nat) (f0 : Nat → Int32) (Q : Int32 → pt_M → Prop) (R18 : Int32 → Int32 → Int32 → pt_M → Prop) (x2 : Int32) (x3 : Int32) (x4 : Int32) (x5 : Int32) (M : pt_M) : Prop :=
  (x5 = 0 → wjL_isSound_244 n0 f0 Q R18 x2 x4 x3 0 M) ∧ (¬ x5 = 0 → wpX7_ageOf x4 M (fun (r_237 : Int32) (M_237 : pt_M) => wjL_isSound_244 n0 f0 Q R18 x2 x4 x3 r_237 M_237))
def wjL_isSound_226 (n0 : Nat) (f0 : Nat → Int32) (Q : Int32 → pt_M → Prop)   (M : pt_M) : Prop :=
  Q 0 M
def wjL_isSound_216 (n0 : Nat) (f0 : Nat → Int32) (Q : Int32 → pt_M → Prop) (R18 : Int32 → Int32 → Int32 → pt_M → Prop) (x2 : Int32) (x3 : Int32) (x4 : Int32) (x5 : Int32) (x8 : Int32) (M : pt_M) : Prop :=
  (¬ x5 = 0 → wjL_isSound_228 n0 f0 Q R18 x2 x3 x4 x5 M) ∧ (x5 = 0 → (x8 ≤ 0 → wjL_isSound_228 n0 f0 Q R18 x2 x3 x4 x5 M) ∧ (¬ x8 ≤ 0 → wjL_isSound_226 n0 f0 Q M))
def wjL_isSound_213 (n0 : Nat) (f0 : Nat → Int32) (Q : Int32 → pt_M → Prop) (R18 : Int32 → Int32 → Int32 → pt_M → Prop) (x2 : Int32) (x3 : Int32) (x4 : Int32) (x5 : Int32) (x8 : Int32) (xs1 : Int32) (M : pt_M) : Prop :=
  (¬ x8 = xs1 → wjL_isSound_226 n0 f0 Q M) ∧ (x8 = xs1 → wjL_isSound_216 n0 f0 Q R18 x2 x3 x4 x5 x8 M)
def wjL_isSound_188 (n0 : Nat) (f0 : Nat → Int32) (Q : Int32 → pt_M → Prop) (R18 : Int32 → Int32 → Int32 → pt_M → Prop) (x2 : Int32) (x3 : Int32) (x4 : Int32) (x5 : Int32) (x7 : Int32) (x8 : Int32) (M : pt_M) : Prop :=
  (x5 = 0 → wjL_isSound_216 n0 f0 Q R18 x2 x3 x4 x5 x8 M) ∧ (¬ x5 = 0 → (x7 ≤ 0 → wjL_isSound_216 n0 f0 Q R18 x2 x3 x4 x5 x8 M) ∧ (¬ x7 ≤ 0 → vp_in x4 n0 ∧ ((¬ (f0 (Int32.toNatClampNeg x4)) = 0 → wjL_isSound_213 n0 f0 Q R18 x2 x3 x4 x5 x8 x7 M) ∧ ((f0 (Int32.toNatClampNeg x4)) = 0 → wjL_isSound_213 n0 f0 Q R18 x2 x3 x4 x5 x8 1 M))))
def wjL_isSound_186 (n0 : Nat) (f0 : Nat → Int32) (Q : Int32 → pt_M → Prop)   (M : pt_M) : Prop :=
  Q 0 M
def wjL_isSound_167 (n0 : Nat) (f0 : Nat → Int32) (Q : Int32 → pt_M → Prop) (R18 : Int32 → Int32 → Int32 → pt_M → Prop) (x2 : Int32) (x3 : Int32) (x4 : Int32) (x5 : Int32) (x6 : Int32) (x7 : Int32) (x8 : Int32) (M : pt_M) : Prop :=
  (x5 = 0 → wjL_isSound_188 n0 f0 Q R18 x2 x3 x4 x5 x7 x8 M) ∧ (¬ x5 = 0 → (x6 < 0 → wjL_isSound_188 n0 f0 Q R18 x2 x3 x4 x5 x7 x8 M) ∧ (¬ x6 < 0 → (¬ ((x2 >>> (x6 &&& 31)) &&& 1) = 0 → wjL_isSound_188 n0 f0 Q R18 x2 x3 x4 x5 x7 x8 M) ∧ (((x2 >>> (x6 &&& 31)) &&& 1) = 0 → wjL_isSound_186 n0 f0 Q M)))
def wjL_isSound_136 (n0 : Nat) (f0 : Nat → Int32) (Q : Int32 → pt_M → Prop) (R18 : Int32 → Int32 → Int32 → pt_M → Prop) (x2 : Int32) (x3 : Int32) (x4 : Int32) (x5 : Int32) (x6 : Int32) (x7 : Int32) (x8 : Int32) (xs0 : Int32) (M : pt_M) : Prop :=
  (¬ xs0 = x5 → wjL_isSound_186 n0 f0 Q M) ∧ (xs0 = x5 → wpX7_ageOf x4 M (fun (r_144 : Int32) (M_144 : pt_M) => wpX7_clock M_144 (fun (r_148 : Int32) (M_148 : pt_M) => (r_148 < r_144 → wjL_isSound_186 n0 f0 Q M_148) ∧ (¬ r_148 < r_144 → (x5 = 0 → wjL_isSound_167 n0 f0 Q R18 x2 x3 x4 x5 x6 x7 x8 M_148) ∧ (¬ x5 = 0 → vp_in x4 n0 ∧ ((2 < (f0 (Int32.toNatClampNeg x4)) → wjL_isSound_186 n0 f0 Q M_148) ∧ (¬ 2 < (f0 (Int32.toNatClampNeg x4)) → wjL_isSound_167 n0 f0 Q R18 x2 x3 x4 x5 x6 x7 x8 M_148)))))))
def wjL_isSound_104 (n0 : Nat) (f0 : Nat → Int32) (Q : Int32 → pt_M → Prop) (R18 : Int32 → Int32 → Int32 → pt_M → Prop) (R60 : Int32 → Int32 → Int32 → Int32 → Int32 → Int32 → Int32 → Int32 → pt_M → Prop) (x2 : Int32) (x3 : Int32) (x4 : Int32) (x5 : Int32) (x6 : Int32) (x7 : Int32) (x8 : Int32) (x9 : Int32) (M : pt_M) : Prop :=
  ∀ x9_104 : Int32, x9_104 = x9 + 1 → R60 x2 x3 x4 x5 x6 x7 x8 x9_104 M
def lbL_isSound_60 (n0 : Nat) (f0 : Nat → Int32) (Q : Int32 → pt_M → Prop) (R18 : Int32 → Int32 → Int32 → pt_M → Prop) (R60 : Int32 → Int32 → Int32 → Int32 → Int32 → Int32 → Int32 → Int32 → pt_M → Prop) (x2 : Int32) (x3 : Int32) (x4 : Int32) (x5 : Int32) (x6 : Int32) (x7 : Int32) (x8 : Int32) (x9 : Int32) (M : pt_M) : Prop :=
  ((Int32.ofNat n0) ≤ x9 → wpX7_ofState x4 3 M (fun (r_114 : Int32) (M_114 : pt_M) => (¬ r_114 = x7 → wjL_isSound_186 n0 f0 Q M_114) ∧ (r_114 = x7 → wpX7_ageOf x4 M_114 (fun (r_125 : Int32) (M_125 : pt_M) => (r_125 < 0 → wjL_isSound_136 n0 f0 Q R18 x2 x3 x4 x5 x6 x7 x8 0 M_125) ∧ (¬ r_125 < 0 → wjL_isSound_136 n0 f0 Q R18 x2 x3 x4 x5 x6 x7 x8 1 M_125))))) ∧ (¬ (Int32.ofNat n0) ≤ x9 → wpX7_ofState x9 1 M (fun (r_71 : Int32) (M_71 : pt_M) => (¬ r_71 = x4 → wjL_isSound_104 n0 f0 Q R18 R60 x2 x3 x4 x5 x6 x7 x8 x9 M_71) ∧ (r_71 = x4 → vp_in x9 n0 ∧ (((f0 (Int32.toNatClampNeg x9)) ≤ 2 → ∀ x7_90 : Int32, x7_90 = x7 + 1 → ∀ x8_102 : Int32, x8_102 = (x8 + ((x2 >>> (x9 &&& 31)) &&& 1)) → wjL_isSound_104 n0 f0 Q R18 R60 x2 x3 x4 x5 x6 x7_90 x8_102 x9 M_71) ∧ (¬ (f0 (Int32.toNatClampNeg x9)) ≤ 2 → wjL_isSound_104 n0 f0 Q R18 R60 x2 x3 x4 x5 x6 x7 x8 x9 M_71)))))
def lpL_isSound_60 (n0 : Nat) (f0 : Nat → Int32) (Q : Int32 → pt_M → Prop) (R18 : Int32 → Int32 → Int32 → pt_M → Prop) : Nat → Int32 → Int32 → Int32 → Int32 → Int32 → Int32 → Int32 → Int32 → pt_M → Prop
  | 0 => fun _ _ _ _ _ _ _ _ _ => False
  | n + 1 => fun x2 x3 x4 x5 x6 x7 x8 x9 M => lbL_isSound_60 n0 f0 Q R18 (lpL_isSound_60 n0 f0 Q R18 n) x2 x3 x4 x5 x6 x7 x8 x9 M
def wjL_isSound_40 (n0 : Nat) (f0 : Nat → Int32) (Q : Int32 → pt_M → Prop) (R18 : Int32 → Int32 → Int32 → pt_M → Prop) (x2 : Int32) (x3 : Int32) (x4 : Int32) (xs0 : Int32) (M : pt_M) : Prop :=
  wpX7_ofState x4 1 M (fun (r_46 : Int32) (M_46 : pt_M) => ∃ n : Nat, lpL_isSound_60 n0 f0 Q R18 n x2 x3 x4 xs0 r_46 0 0 0 M_46)
def lbL_isSound_18 (n0 : Nat) (f0 : Nat → Int32) (Q : Int32 → pt_M → Prop)  (R18 : Int32 → Int32 → Int32 → pt_M → Prop) (x2 : Int32) (x3 : Int32) (x4 : Int32) (M : pt_M) : Prop :=
  ((Int32.ofNat n0) ≤ x4 → wpX7_meanAge M (fun (r_253 : UInt64) (M_253 : pt_M) => wpJ6_bitCount_0f7a4 x2 M_253 (fun (r_259 : Int32) (M_259 : pt_M) => vf_n64 (FP.ddiv (FP.i2d x3) (FP.i2d r_259)) ∧ (∀ r_264 : Int32, r_264 = (Op.cmpValue (FP.dcmp r_253 (FP.ddiv (FP.i2d x3) (FP.i2d r_259))) CmpOp.l) → (¬ r_264 = 0 → wjL_isSound_273 n0 f0 Q 0 M_259) ∧ (r_264 = 0 → wjL_isSound_273 n0 f0 Q 1 M_259))))) ∧ (¬ (Int32.ofNat n0) ≤ x4 → (¬ ((x2 >>> (x4 &&& 31)) &&& 1) = 1 → wjL_isSound_40 n0 f0 Q R18 x2 x3 x4 0 M) ∧ (((x2 >>> (x4 &&& 31)) &&& 1) = 1 → wjL_isSound_40 n0 f0 Q R18 x2 x3 x4 1 M))
def lpL_isSound_18 (n0 : Nat) (f0 : Nat → Int32) (Q : Int32 → pt_M → Prop)  : Nat → Int32 → Int32 → Int32 → pt_M → Prop
  | 0 => fun _ _ _ _ => False
  | n + 1 => fun x2 x3 x4 M => lbL_isSound_18 n0 f0 Q (lpL_isSound_18 n0 f0 Q n) x2 x3 x4 M
def wpL_isSound (n0 : Nat) (f0 : Nat → Int32) (M : pt_M) (Q : Int32 → pt_M → Prop) : Prop :=
  wpX7_active M (fun (r_1 : Int32) (M_1 : pt_M) => (¬ (r_1 &&& 1) = 0 → ∃ n : Nat, lpL_isSound_18 n0 f0 Q n r_1 0 0 M_1) ∧ ((r_1 &&& 1) = 0 → Q 0 M_1))
set_option maxHeartbeats 8000000 in
set_option maxRecDepth 100000 in
theorem mtL_isSound (l : Launch) (D : va_G) (cA : Nat → ClassId) (ad : Nat → Nat) (sz a0 : Nat) (n0 : Nat) (f0 : Nat → Int32) (M : pt_M) (Q : Int32 → pt_M → Prop) (hw : wpL_isSound n0 f0 M Q) : Met l yL_isSound (Cond.code yL_isSound cL_isSound 10 (some .boolean) :: lw_all) ({ frames := 3, cells := 0, slots := 0, locals := 66 } : Room) (va_Pc [.ref (ad 0), .ref a0] (pf_soP D cA ad sz a0 n0 f0 M)) (va_Qi Q (pt_B D cA ad) (pt_fr ad sz)) 0 0 (pt_fr ad sz) := by
  refine Met.ofW (cc := cL_isSound) (maxL := 10) (ret := (some .boolean)) (by decide) rfl ?_
  intro p e s m args below meth c s₁ B hml hv
  obtain ⟨rfl, hsz, hP, hK, hD⟩ := hv
  have hx := B.exec
  have hb := B.bytes
  have hr := B.returns
  have hts0 := atoms_spec (ws := (Cond.code yL_isSound cL_isSound 10 (some .boolean) :: lw_all)) B.pre
  have hown : s.vm.findClass RL = some m.cls := findClass_of_methodNamed B.named
  have hlocks := B.notSynchronized
  subst hsz
  have F : pt_F p m c cL_isSound 10 s _ RL D cA := ⟨⟨hx, hb, hml, hown, fun w h => hts0 w (List.mem_cons_of_mem _ h)⟩, hK⟩
  have s_cb : 0 ≤ (headSpec (Cond.code yL_isSound cL_isSound 10 (some .boolean) :: lw_all) ({ frames := 3, cells := 0, slots := 0, locals := 66 } : Room)).room.cells := Nat.le_of_ble_eq_true rfl
  have s_sb : 0 ≤ (headSpec (Cond.code yL_isSound cL_isSound 10 (some .boolean) :: lw_all) ({ frames := 3, cells := 0, slots := 0, locals := 66 } : Room)).room.slots := Nat.le_of_ble_eq_true rfl
  have hS : va_S (pt_fr ad s.heap.size) s.heap s.heap [] := va_S.rf
  have hI : pt_I ad := pt_xI hD
  have hAf : ∀ q, pt_fr ad s.heap.size q → pt_fr ad s.heap.size q := fun _ h => h
  have hl := lv_entry ([.ref (ad 0), .ref a0]) (n := 10) (Nat.le_of_ble_eq_true rfl)
  rw [lg_entry_eq]
  generalize (lg_sl ([.ref (ad 0), .ref a0]) ++ List.replicate (10 - (lg_sl ([.ref (ad 0), .ref a0])).length) Slot.unset).toArray = ls at hl ⊢
  have hl : lv_has ls 10 [(0, .ref (ad 0)), (1, .ref a0)] := hl
  have J273 : ∀ (xs0 : Int32) (M : pt_M) (H : Heap) (locs : List Loc) (ls : Array Slot), wjL_isSound_273 n0 f0 Q xs0 M → va_P D pt_cl (pt_W cA ad M ++ []) H → va_D (fun _ => True) (pt_W cA ad M ++ []) → va_S (pt_fr ad s.heap.size) s.heap H locs → lv_has ls 10 [] → W p l e (headSpec (Cond.code yL_isSound cL_isSound 10 (some .boolean) :: lw_all) ({ frames := 3, cells := 0, slots := 0, locals := 66 } : Room)).room s m ([.ref (ad 0), .ref a0] : List Value).toArray below meth c H locs 0 0 (MQ below (va_Qi Q (pt_B D cA ad) (pt_fr ad s.heap.size)) ([.ref (ad 0), .ref a0] : List Value).toArray s 0 0 (pt_fr ad s.heap.size)) (F0 m 273 ls [.int xs0]) := by
    intro xs0 M H locs ls hw hP hD hS hl
    unfold wjL_isSound_273 at hw
    exact W.zret (v := xs0) (ty := .boolean) hx hb hr (pt_zb_n hw.1) (fun t ht hW => ⟨⟨xs0, M, rfl, hw.2, by unfold pt_B; rw [ht]; exact (pt_xP.mp hP).1⟩, hS.F ht⟩) hS.2.2 dL_isSound_273
  have J226 : ∀ (M : pt_M) (H : Heap) (locs : List Loc) (ls : Array Slot), wjL_isSound_226 n0 f0 Q M → va_P D pt_cl (pt_W cA ad M ++ []) H → va_D (fun _ => True) (pt_W cA ad M ++ []) → va_S (pt_fr ad s.heap.size) s.heap H locs → lv_has ls 10 [] → W p l e (headSpec (Cond.code yL_isSound cL_isSound 10 (some .boolean) :: lw_all) ({ frames := 3, cells := 0, slots := 0, locals := 66 } : Room)).room s m ([.ref (ad 0), .ref a0] : List Value).toArray below meth c H locs 0 0 (MQ below (va_Qi Q (pt_B D cA ad) (pt_fr ad s.heap.size)) ([.ref (ad 0), .ref a0] : List Value).toArray s 0 0 (pt_fr ad s.heap.size)) (F0 m 226 ls []) := by
    intro M H locs ls hw hP hD hS hl
    unfold wjL_isSound_226 at hw
    refine lv_iconst (v := 0) hx hb dL_isSound_226 (by decide) ?_
    exact W.zret (v := 0) (ty := .boolean) hx hb hr rfl (fun t ht hW => ⟨⟨0, M, rfl, hw, by unfold pt_B; rw [ht]; exact (pt_xP.mp hP).1⟩, hS.F ht⟩) hS.2.2 dL_isSound_227
  have J186 : ∀ (M : pt_M) (H : Heap) (locs : List Loc) (ls : Array Slot), wjL_isSound_186 n0 f0 Q M → va_P D pt_cl (pt_W cA ad M ++ []) H → va_D (fun _ => True) (pt_W cA ad M ++ []) → va_S (pt_fr ad s.heap.size) s.heap H locs → lv_has ls 10 [] → W p l e (headSpec (Cond.code yL_isSound cL_isSound 10 (some .boolean) :: lw_all) ({ frames := 3, cells := 0, slots := 0, locals := 66 } : Room)).room s m ([.ref (ad 0), .ref a0] : List Value).toArray below meth c H locs 0 0 (MQ below (va_Qi Q (pt_B D cA ad) (pt_fr ad s.heap.size)) ([.ref (ad 0), .ref a0] : List Value).toArray s 0 0 (pt_fr ad s.heap.size)) (F0 m 186 ls []) := by
    intro M H locs ls hw hP hD hS hl
    unfold wjL_isSound_186 at hw
    refine lv_iconst (v := 0) hx hb dL_isSound_186 (by decide) ?_
    exact W.zret (v := 0) (ty := .boolean) hx hb hr rfl (fun t ht hW => ⟨⟨0, M, rfl, hw, by unfold pt_B; rw [ht]; exact (pt_xP.mp hP).1⟩, hS.F ht⟩) hS.2.2 dL_isSound_187
  have L18 : ∀ (n18 : Nat) (x2 : Int32) (x3 : Int32) (x4 : Int32) (M : pt_M) (H : Heap) (locs : List Loc) (ls : Array Slot), lpL_isSound_18 n0 f0 Q n18 x2 x3 x4 M → va_P D pt_cl (pt_W cA ad M ++ [(a0, .inl (cA 0, n0, .inl f0))]) H → va_D (fun _ => True) (pt_W cA ad M ++ [(a0, .inl (cA 0, n0, .inl f0))]) → va_S (pt_fr ad s.heap.size) s.heap H locs → lv_has ls 10 [(0, .ref (ad 0)), (1, .ref a0), (2, .int x2), (3, .int x3), (4, .int x4)] → W p l e (headSpec (Cond.code yL_isSound cL_isSound 10 (some .boolean) :: lw_all) ({ frames := 3, cells := 0, slots := 0, locals := 66 } : Room)).room s m ([.ref (ad 0), .ref a0] : List Value).toArray below meth c H locs 0 0 (MQ below (va_Qi Q (pt_B D cA ad) (pt_fr ad s.heap.size)) ([.ref (ad 0), .ref a0] : List Value).toArray s 0 0 (pt_fr ad s.heap.size)) (F0 m 18 ls []) := by
    intro n18
    induction n18 with
    | zero => intro x2 x3 x4 M H locs ls hw; exact hw.elim
    | succ n18 ih18 =>
      have J244 : ∀ (x2 : Int32) (x4 : Int32) (xs0 : Int32) (xs1 : Int32) (M : pt_M) (H : Heap) (locs : List Loc) (ls : Array Slot), wjL_isSound_244 n0 f0 Q (lpL_isSound_18 n0 f0 Q n18) x2 x4 xs0 xs1 M → va_P D pt_cl (pt_W cA ad M ++ [(a0, .inl (cA 0, n0, .inl f0))]) H → va_D (fun _ => True) (pt_W cA ad M ++ [(a0, .inl (cA 0, n0, .inl f0))]) → va_S (pt_fr ad s.heap.size) s.heap H locs → lv_has ls 10 [(0, .ref (ad 0)), (1, .ref a0), (2, .int x2), (4, .int x4)] → W p l e (headSpec (Cond.code yL_isSound cL_isSound 10 (some .boolean) :: lw_all) ({ frames := 3, cells := 0, slots := 0, locals := 66 } : Room)).room s m ([.ref (ad 0), .ref a0] : List Value).toArray below meth c H locs 0 0 (MQ below (va_Qi Q (pt_B D cA ad) (pt_fr ad s.heap.size)) ([.ref (ad 0), .ref a0] : List Value).toArray s 0 0 (pt_fr ad s.heap.size)) (F0 m 244 ls [.int xs1, .int xs0]) := by
        intro x2 x4 xs0 xs1 M H locs ls hw hP hD hS hl
        unfold wjL_isSound_244 at hw
        refine lv_iadd hx hb dL_isSound_244 ?_
        refine lv_topi (fun x3_245 ex3_245 => ?_)
        replace hw := hw x3_245 ex3_245
        refine lv_istore_n (lv' := [(3, .int x3_245), (0, .ref (ad 0)), (1, .ref a0), (2, .int x2), (4, .int x4)]) hx hb dL_isSound_245 rfl hl (by decide) rfl (fun ls hl => ?_)
        obtain ⟨x4_246, ex4_246⟩ : ∃ y : Int32, y = x4 + 1 := ⟨_, rfl⟩
        replace hw := hw x4_246 ex4_246
        refine lv_iinc (v := x4_246) (lv' := [(4, .int x4_246), (3, .int x3_245), (0, .ref (ad 0)), (1, .ref a0), (2, .int x2)]) hx hb dL_isSound_246 hl (k := 4) rfl (by rw [ex4_246]; rfl) (by decide) rfl (fun ls hl => ?_)
        refine lv_goto (tgt := 18) hx hb dL_isSound_249 (by decide) ?_
        exact ih18 x2 x3_245 x4_246 M _ _ _ hw (pt_xpick hP [0] rfl) (pt_xpickD hD [0] (by decide) rfl) hS (lv_sub hl [2, 3, 4, 1, 0] rfl)
      have J228 : ∀ (x2 : Int32) (x3 : Int32) (x4 : Int32) (x5 : Int32) (M : pt_M) (H : Heap) (locs : List Loc) (ls : Array Slot), wjL_isSound_228 n0 f0 Q (lpL_isSound_18 n0 f0 Q n18) x2 x3 x4 x5 M → va_P D pt_cl (pt_W cA ad M ++ [(a0, .inl (cA 0, n0, .inl f0))]) H → va_D (fun _ => True) (pt_W cA ad M ++ [(a0, .inl (cA 0, n0, .inl f0))]) → va_S (pt_fr ad s.heap.size) s.heap H locs → lv_has ls 10 [(0, .ref (ad 0)), (1, .ref a0), (2, .int x2), (3, .int x3), (4, .int x4), (5, .int x5)] → W p l e (headSpec (Cond.code yL_isSound cL_isSound 10 (some .boolean) :: lw_all) ({ frames := 3, cells := 0, slots := 0, locals := 66 } : Room)).room s m ([.ref (ad 0), .ref a0] : List Value).toArray below meth c H locs 0 0 (MQ below (va_Qi Q (pt_B D cA ad) (pt_fr ad s.heap.size)) ([.ref (ad 0), .ref a0] : List Value).toArray s 0 0 (pt_fr ad s.heap.size)) (F0 m 228 ls []) := by
        intro x2 x3 x4 x5 M H locs ls hw hP hD hS hl
        unfold wjL_isSound_228 at hw
        refine lv_iload_n hx hb dL_isSound_228 rfl (lv_at hl 3 rfl) ?_
        refine lv_iload hx hb dL_isSound_229 (lv_at hl 5 rfl) ?_
        refine lv_if_eq (tgt := 243) hx hb dL_isSound_231 (by decide) (fun hc231 => ?_) (fun hc231 => ?_)
        · replace hw := hw.1 hc231
          refine lv_iconst (v := 0) hx hb dL_isSound_243 (by decide) ?_
          exact J244 x2 x4 x3 0 M _ _ _ hw (pt_xpick hP [0] rfl) (pt_xpickD hD [0] (by decide) rfl) hS (lv_sub hl [0, 1, 2, 4] rfl)
        · replace hw := hw.2 hc231
          refine lv_aload_n hx hb dL_isSound_234 rfl (lv_at hl 0 rfl) ?_
          refine lv_iload hx hb dL_isSound_235 (lv_at hl 4 rfl) ?_
          refine pt_calli (pt_runV (n := 1) (As := [.int x4]) (rest := [.int x3]) F (pt_xP.mp hP).1 (pt_c7 _ pt_k0) (pt_l7 pt_k0) rfl (mtX7_ageOf l D cA ad hI _ x4 M _ hw) kw_737 kw_834 kw_26 kw_735 kw_736 ⟨by decide, by decide, by decide +kernel⟩ ⟨rfl, rfl, Nat.le_of_ble_eq_true rfl, Nat.le_of_ble_eq_true rfl⟩ rfl hl.1 rfl (Nat.le_of_ble_eq_true rfl) dL_isSound_237 ⟨(Nat.le_trans (by omega) s_cb), (Nat.le_trans (by omega) s_sb)⟩) hS hAf (fun r_237 M_237 H_ locs hw hP1 hS _ ho => ?_)
          replace hP := pt_xback hP hD hP1 ho
          replace hD := pt_xeng (M1 := M_237) hD
          clear hP1 ho
          refine lv_goto (tgt := 244) hx hb dL_isSound_240 (by decide) ?_
          exact J244 x2 x4 x3 r_237 M_237 _ _ _ hw (pt_xpick hP [0] rfl) (pt_xpickD hD [0] (by decide) rfl) hS (lv_sub hl [0, 1, 2, 4] rfl)
      have J216 : ∀ (x2 : Int32) (x3 : Int32) (x4 : Int32) (x5 : Int32) (x8 : Int32) (M : pt_M) (H : Heap) (locs : List Loc) (ls : Array Slot), wjL_isSound_216 n0 f0 Q (lpL_isSound_18 n0 f0 Q n18) x2 x3 x4 x5 x8 M → va_P D pt_cl (pt_W cA ad M ++ [(a0, .inl (cA 0, n0, .inl f0))]) H → va_D (fun _ => True) (pt_W cA ad M ++ [(a0, .inl (cA 0, n0, .inl f0))]) → va_S (pt_fr ad s.heap.size) s.heap H locs → lv_has ls 10 [(0, .ref (ad 0)), (1, .ref a0), (2, .int x2), (3, .int x3), (4, .int x4), (5, .int x5), (8, .int x8)] → W p l e (headSpec (Cond.code yL_isSound cL_isSound 10 (some .boolean) :: lw_all) ({ frames := 3, cells := 0, slots := 0, locals := 66 } : Room)).room s m ([.ref (ad 0), .ref a0] : List Value).toArray below meth c H locs 0 0 (MQ below (va_Qi Q (pt_B D cA ad) (pt_fr ad s.heap.size)) ([.ref (ad 0), .ref a0] : List Value).toArray s 0 0 (pt_fr ad s.heap.size)) (F0 m 216 ls []) := by
        intro x2 x3 x4 x5 x8 M H locs ls hw hP hD hS hl
        unfold wjL_isSound_216 at hw
        refine lv_iload hx hb dL_isSound_216 (lv_at hl 5 rfl) ?_
        refine lv_if_ne (tgt := 228) hx hb dL_isSound_218 (by decide) (fun hc218 => ?_) (fun hc218 => ?_)
        · replace hw := hw.1 hc218
          exact J228 x2 x3 x4 x5 M _ _ _ hw (pt_xpick hP [0] rfl) (pt_xpickD hD [0] (by decide) rfl) hS (lv_sub hl [0, 1, 2, 3, 4, 5] rfl)
        · replace hw := hw.2 hc218
          refine lv_iload hx hb dL_isSound_221 (lv_at hl 6 rfl) ?_
          refine lv_if_le (tgt := 228) hx hb dL_isSound_223 (by decide) (fun hc223 => ?_) (fun hc223 => ?_)
          · replace hw := hw.1 hc223
            exact J228 x2 x3 x4 x5 M _ _ _ hw (pt_xpick hP [0] rfl) (pt_xpickD hD [0] (by decide) rfl) hS (lv_sub hl [0, 1, 2, 3, 4, 5] rfl)
          · replace hw := hw.2 hc223
            exact J226 M _ _ _ hw (pt_xpick hP [] rfl) (pt_xpickD hD [] (by decide) rfl) hS (lv_sub hl [] rfl)
      have J213 : ∀ (x2 : Int32) (x3 : Int32) (x4 : Int32) (x5 : Int32) (x8 : Int32) (xs1 : Int32) (M : pt_M) (H : Heap) (locs : List Loc) (ls : Array Slot), wjL_isSound_213 n0 f0 Q (lpL_isSound_18 n0 f0 Q n18) x2 x3 x4 x5 x8 xs1 M → va_P D pt_cl (pt_W cA ad M ++ [(a0, .inl (cA 0, n0, .inl f0))]) H → va_D (fun _ => True) (pt_W cA ad M ++ [(a0, .inl (cA 0, n0, .inl f0))]) → va_S (pt_fr ad s.heap.size) s.heap H locs → lv_has ls 10 [(0, .ref (ad 0)), (1, .ref a0), (2, .int x2), (3, .int x3), (4, .int x4), (5, .int x5), (8, .int x8)] → W p l e (headSpec (Cond.code yL_isSound cL_isSound 10 (some .boolean) :: lw_all) ({ frames := 3, cells := 0, slots := 0, locals := 66 } : Room)).room s m ([.ref (ad 0), .ref a0] : List Value).toArray below meth c H locs 0 0 (MQ below (va_Qi Q (pt_B D cA ad) (pt_fr ad s.heap.size)) ([.ref (ad 0), .ref a0] : List Value).toArray s 0 0 (pt_fr ad s.heap.size)) (F0 m 213 ls [.int xs1, .int x8]) := by
        intro x2 x3 x4 x5 x8 xs1 M H locs ls hw hP hD hS hl
        unfold wjL_isSound_213 at hw
        refine lv_icmp_ne (tgt := 226) hx hb dL_isSound_213 (by decide) (fun hc213 => ?_) (fun hc213 => ?_)
        · replace hw := hw.1 hc213
          exact J226 M _ _ _ hw (pt_xpick hP [] rfl) (pt_xpickD hD [] (by decide) rfl) hS (lv_sub hl [] rfl)
        · replace hw := hw.2 hc213
          exact J216 x2 x3 x4 x5 x8 M _ _ _ hw (pt_xpick hP [0] rfl) (pt_xpickD hD [0] (by decide) rfl) hS (lv_sub hl [0, 1, 2, 3, 4, 5, 6] rfl)
      have J188 : ∀ (x2 : Int32) (x3 : Int32) (x4 : Int32) (x5 : Int32) (x7 : Int32) (x8 : Int32) (M : pt_M) (H : Heap) (locs : List Loc) (ls : Array Slot), wjL_isSound_188 n0 f0 Q (lpL_isSound_18 n0 f0 Q n18) x2 x3 x4 x5 x7 x8 M → va_P D pt_cl (pt_W cA ad M ++ [(a0, .inl (cA 0, n0, .inl f0))]) H → va_D (fun _ => True) (pt_W cA ad M ++ [(a0, .inl (cA 0, n0, .inl f0))]) → va_S (pt_fr ad s.heap.size) s.heap H locs → lv_has ls 10 [(0, .ref (ad 0)), (1, .ref a0), (2, .int x2), (3, .int x3), (4, .int x4), (5, .int x5), (7, .int x7), (8, .int x8)] → W p l e (headSpec (Cond.code yL_isSound cL_isSound 10 (some .boolean) :: lw_all) ({ frames := 3, cells := 0, slots := 0, locals := 66 } : Room)).room s m ([.ref (ad 0), .ref a0] : List Value).toArray below meth c H locs 0 0 (MQ below (va_Qi Q (pt_B D cA ad) (pt_fr ad s.heap.size)) ([.ref (ad 0), .ref a0] : List Value).toArray s 0 0 (pt_fr ad s.heap.size)) (F0 m 188 ls []) := by
        intro x2 x3 x4 x5 x7 x8 M H locs ls hw hP hD hS hl
        unfold wjL_isSound_188 at hw
        refine lv_iload hx hb dL_isSound_188 (lv_at hl 5 rfl) ?_
        refine lv_if_eq (tgt := 216) hx hb dL_isSound_190 (by decide) (fun hc190 => ?_) (fun hc190 => ?_)
        · replace hw := hw.1 hc190
          exact J216 x2 x3 x4 x5 x8 M _ _ _ hw (pt_xpick hP [0] rfl) (pt_xpickD hD [0] (by decide) rfl) hS (lv_sub hl [0, 1, 2, 3, 4, 5, 7] rfl)
        · replace hw := hw.2 hc190
          refine lv_iload hx hb dL_isSound_193 (lv_at hl 6 rfl) ?_
          refine lv_if_le (tgt := 216) hx hb dL_isSound_195 (by decide) (fun hc195 => ?_) (fun hc195 => ?_)
          · replace hw := hw.1 hc195
            exact J216 x2 x3 x4 x5 x8 M _ _ _ hw (pt_xpick hP [0] rfl) (pt_xpickD hD [0] (by decide) rfl) hS (lv_sub hl [0, 1, 2, 3, 4, 5, 7] rfl)
          · replace hw := hw.2 hc195
            refine lv_iload hx hb dL_isSound_198 (lv_at hl 7 rfl) ?_
            refine lv_aload_n hx hb dL_isSound_200 rfl (lv_at hl 1 rfl) ?_
            refine lv_iload hx hb dL_isSound_201 (lv_at hl 4 rfl) ?_
            have hv203 := hw.1
            replace hw := hw.2
            refine pt_xild F hP 0 rfl hv203 dL_isSound_203 ?_
            refine lv_if_ne (tgt := 211) hx hb dL_isSound_204 (by decide) (fun hc204 => ?_) (fun hc204 => ?_)
            · replace hw := hw.1 hc204
              refine lv_iload hx hb dL_isSound_211 (lv_at hl 6 rfl) ?_
              exact J213 x2 x3 x4 x5 x8 x7 M _ _ _ hw (pt_xpick hP [0] rfl) (pt_xpickD hD [0] (by decide) rfl) hS (lv_sub hl [0, 1, 2, 3, 4, 5, 7] rfl)
            · replace hw := hw.2 hc204
              refine lv_iconst (v := 1) hx hb dL_isSound_207 (by decide) ?_
              refine lv_goto (tgt := 213) hx hb dL_isSound_208 (by decide) ?_
              exact J213 x2 x3 x4 x5 x8 1 M _ _ _ hw (pt_xpick hP [0] rfl) (pt_xpickD hD [0] (by decide) rfl) hS (lv_sub hl [0, 1, 2, 3, 4, 5, 7] rfl)
      have J167 : ∀ (x2 : Int32) (x3 : Int32) (x4 : Int32) (x5 : Int32) (x6 : Int32) (x7 : Int32) (x8 : Int32) (M : pt_M) (H : Heap) (locs : List Loc) (ls : Array Slot), wjL_isSound_167 n0 f0 Q (lpL_isSound_18 n0 f0 Q n18) x2 x3 x4 x5 x6 x7 x8 M → va_P D pt_cl (pt_W cA ad M ++ [(a0, .inl (cA 0, n0, .inl f0))]) H → va_D (fun _ => True) (pt_W cA ad M ++ [(a0, .inl (cA 0, n0, .inl f0))]) → va_S (pt_fr ad s.heap.size) s.heap H locs → lv_has ls 10 [(0, .ref (ad 0)), (1, .ref a0), (2, .int x2), (3, .int x3), (4, .int x4), (5, .int x5), (6, .int x6), (7, .int x7), (8, .int x8)] → W p l e (headSpec (Cond.code yL_isSound cL_isSound 10 (some .boolean) :: lw_all) ({ frames := 3, cells := 0, slots := 0, locals := 66 } : Room)).room s m ([.ref (ad 0), .ref a0] : List Value).toArray below meth c H locs 0 0 (MQ below (va_Qi Q (pt_B D cA ad) (pt_fr ad s.heap.size)) ([.ref (ad 0), .ref a0] : List Value).toArray s 0 0 (pt_fr ad s.heap.size)) (F0 m 167 ls []) := by
        intro x2 x3 x4 x5 x6 x7 x8 M H locs ls hw hP hD hS hl
        unfold wjL_isSound_167 at hw
        refine lv_iload hx hb dL_isSound_167 (lv_at hl 5 rfl) ?_
        refine lv_if_eq (tgt := 188) hx hb dL_isSound_169 (by decide) (fun hc169 => ?_) (fun hc169 => ?_)
        · replace hw := hw.1 hc169
          exact J188 x2 x3 x4 x5 x7 x8 M _ _ _ hw (pt_xpick hP [0] rfl) (pt_xpickD hD [0] (by decide) rfl) hS (lv_sub hl [0, 1, 2, 3, 4, 5, 7, 8] rfl)
        · replace hw := hw.2 hc169
          refine lv_iload hx hb dL_isSound_172 (lv_at hl 6 rfl) ?_
          refine lv_if_lt (tgt := 188) hx hb dL_isSound_174 (by decide) (fun hc174 => ?_) (fun hc174 => ?_)
          · replace hw := hw.1 hc174
            exact J188 x2 x3 x4 x5 x7 x8 M _ _ _ hw (pt_xpick hP [0] rfl) (pt_xpickD hD [0] (by decide) rfl) hS (lv_sub hl [0, 1, 2, 3, 4, 5, 7, 8] rfl)
          · replace hw := hw.2 hc174
            refine lv_iload_n hx hb dL_isSound_177 rfl (lv_at hl 2 rfl) ?_
            refine lv_iload hx hb dL_isSound_178 (lv_at hl 6 rfl) ?_
            refine lv_ishr hx hb dL_isSound_180 ?_
            refine lv_iconst (v := 1) hx hb dL_isSound_181 (by decide) ?_
            refine lv_iand hx hb dL_isSound_182 ?_
            refine lv_if_ne (tgt := 188) hx hb dL_isSound_183 (by decide) (fun hc183 => ?_) (fun hc183 => ?_)
            · replace hw := hw.1 hc183
              exact J188 x2 x3 x4 x5 x7 x8 M _ _ _ hw (pt_xpick hP [0] rfl) (pt_xpickD hD [0] (by decide) rfl) hS (lv_sub hl [0, 1, 2, 3, 4, 5, 7, 8] rfl)
            · replace hw := hw.2 hc183
              exact J186 M _ _ _ hw (pt_xpick hP [] rfl) (pt_xpickD hD [] (by decide) rfl) hS (lv_sub hl [] rfl)
      have J136 : ∀ (x2 : Int32) (x3 : Int32) (x4 : Int32) (x5 : Int32) (x6 : Int32) (x7 : Int32) (x8 : Int32) (xs0 : Int32) (M : pt_M) (H : Heap) (locs : List Loc) (ls : Array Slot), wjL_isSound_136 n0 f0 Q (lpL_isSound_18 n0 f0 Q n18) x2 x3 x4 x5 x6 x7 x8 xs0 M → va_P D pt_cl (pt_W cA ad M ++ [(a0, .inl (cA 0, n0, .inl f0))]) H → va_D (fun _ => True) (pt_W cA ad M ++ [(a0, .inl (cA 0, n0, .inl f0))]) → va_S (pt_fr ad s.heap.size) s.heap H locs → lv_has ls 10 [(0, .ref (ad 0)), (1, .ref a0), (2, .int x2), (3, .int x3), (4, .int x4), (5, .int x5), (6, .int x6), (7, .int x7), (8, .int x8)] → W p l e (headSpec (Cond.code yL_isSound cL_isSound 10 (some .boolean) :: lw_all) ({ frames := 3, cells := 0, slots := 0, locals := 66 } : Room)).room s m ([.ref (ad 0), .ref a0] : List Value).toArray below meth c H locs 0 0 (MQ below (va_Qi Q (pt_B D cA ad) (pt_fr ad s.heap.size)) ([.ref (ad 0), .ref a0] : List Value).toArray s 0 0 (pt_fr ad s.heap.size)) (F0 m 136 ls [.int xs0]) := by
        intro x2 x3 x4 x5 x6 x7 x8 xs0 M H locs ls hw hP hD hS hl
        unfold wjL_isSound_136 at hw
        refine lv_iload hx hb dL_isSound_136 (lv_at hl 5 rfl) ?_
        refine lv_icmp_ne (tgt := 186) hx hb dL_isSound_138 (by decide) (fun hc138 => ?_) (fun hc138 => ?_)
        · replace hw := hw.1 hc138
          exact J186 M _ _ _ hw (pt_xpick hP [] rfl) (pt_xpickD hD [] (by decide) rfl) hS (lv_sub hl [] rfl)
        · replace hw := hw.2 hc138
          refine lv_aload_n hx hb dL_isSound_141 rfl (lv_at hl 0 rfl) ?_
          refine lv_iload hx hb dL_isSound_142 (lv_at hl 4 rfl) ?_
          refine pt_calli (pt_runV (n := 1) (As := [.int x4]) (rest := []) F (pt_xP.mp hP).1 (pt_c7 _ pt_k0) (pt_l7 pt_k0) rfl (mtX7_ageOf l D cA ad hI _ x4 M _ hw) kw_737 kw_834 kw_26 kw_735 kw_736 ⟨by decide, by decide, by decide +kernel⟩ ⟨rfl, rfl, Nat.le_of_ble_eq_true rfl, Nat.le_of_ble_eq_true rfl⟩ rfl hl.1 rfl (Nat.le_of_ble_eq_true rfl) dL_isSound_144 ⟨(Nat.le_trans (by omega) s_cb), (Nat.le_trans (by omega) s_sb)⟩) hS hAf (fun r_144 M_144 H_ locs hw hP1 hS _ ho => ?_)
          replace hP := pt_xback hP hD hP1 ho
          replace hD := pt_xeng (M1 := M_144) hD
          clear hP1 ho
          refine lv_aload_n hx hb dL_isSound_147 rfl (lv_at hl 0 rfl) ?_
          refine pt_calli (pt_runV (n := 0) (As := []) (rest := [.int r_144]) F (pt_xP.mp hP).1 (pt_c7 _ pt_k0) (pt_l7 pt_k0) rfl (mtX7_clock l D cA ad hI _ M_144 _ hw) kw_626 kw_623 kw_26 kw_624 kw_625 ⟨by decide, by decide, by decide +kernel⟩ ⟨rfl, rfl, Nat.le_of_ble_eq_true rfl, Nat.le_of_ble_eq_true rfl⟩ rfl hl.1 rfl (Nat.le_of_ble_eq_true rfl) dL_isSound_148 ⟨(Nat.le_trans (by omega) s_cb), (Nat.le_trans (by omega) s_sb)⟩) hS hAf (fun r_148 M_148 H_ locs hw hP1 hS _ ho => ?_)
          replace hP := pt_xback hP hD hP1 ho
          replace hD := pt_xeng (M1 := M_148) hD
          clear hP1 ho
          refine lv_icmp_gt (tgt := 186) hx hb dL_isSound_151 (by decide) (fun hc151 => ?_) (fun hc151 => ?_)
          · replace hw := hw.1 hc151
            exact J186 M_148 _ _ _ hw (pt_xpick hP [] rfl) (pt_xpickD hD [] (by decide) rfl) hS (lv_sub hl [] rfl)
          · replace hw := hw.2 hc151
            refine lv_iload hx hb dL_isSound_154 (lv_at hl 5 rfl) ?_
            refine lv_if_eq (tgt := 167) hx hb dL_isSound_156 (by decide) (fun hc156 => ?_) (fun hc156 => ?_)
            · replace hw := hw.1 hc156
              exact J167 x2 x3 x4 x5 x6 x7 x8 M_148 _ _ _ hw (pt_xpick hP [0] rfl) (pt_xpickD hD [0] (by decide) rfl) hS (lv_sub hl [0, 1, 2, 3, 4, 5, 6, 7, 8] rfl)
            · replace hw := hw.2 hc156
              refine lv_aload_n hx hb dL_isSound_159 rfl (lv_at hl 1 rfl) ?_
              refine lv_iload hx hb dL_isSound_160 (lv_at hl 4 rfl) ?_
              have hv162 := hw.1
              replace hw := hw.2
              refine pt_xild F hP 0 rfl hv162 dL_isSound_162 ?_
              refine lv_iconst (v := 2) hx hb dL_isSound_163 (by decide) ?_
              refine lv_icmp_gt (tgt := 186) hx hb dL_isSound_164 (by decide) (fun hc164 => ?_) (fun hc164 => ?_)
              · replace hw := hw.1 hc164
                exact J186 M_148 _ _ _ hw (pt_xpick hP [] rfl) (pt_xpickD hD [] (by decide) rfl) hS (lv_sub hl [] rfl)
              · replace hw := hw.2 hc164
                exact J167 x2 x3 x4 x5 x6 x7 x8 M_148 _ _ _ hw (pt_xpick hP [0] rfl) (pt_xpickD hD [0] (by decide) rfl) hS (lv_sub hl [0, 1, 2, 3, 4, 5, 6, 7, 8] rfl)
      have L60 : ∀ (n60 : Nat) (x2 : Int32) (x3 : Int32) (x4 : Int32) (x5 : Int32) (x6 : Int32) (x7 : Int32) (x8 : Int32) (x9 : Int32) (M : pt_M) (H : Heap) (locs : List Loc) (ls : Array Slot), lpL_isSound_60 n0 f0 Q (lpL_isSound_18 n0 f0 Q n18) n60 x2 x3 x4 x5 x6 x7 x8 x9 M → va_P D pt_cl (pt_W cA ad M ++ [(a0, .inl (cA 0, n0, .inl f0))]) H → va_D (fun _ => True) (pt_W cA ad M ++ [(a0, .inl (cA 0, n0, .inl f0))]) → va_S (pt_fr ad s.heap.size) s.heap H locs → lv_has ls 10 [(0, .ref (ad 0)), (1, .ref a0), (2, .int x2), (3, .int x3), (4, .int x4), (5, .int x5), (6, .int x6), (7, .int x7), (8, .int x8), (9, .int x9)] → W p l e (headSpec (Cond.code yL_isSound cL_isSound 10 (some .boolean) :: lw_all) ({ frames := 3, cells := 0, slots := 0, locals := 66 } : Room)).room s m ([.ref (ad 0), .ref a0] : List Value).toArray below meth c H locs 0 0 (MQ below (va_Qi Q (pt_B D cA ad) (pt_fr ad s.heap.size)) ([.ref (ad 0), .ref a0] : List Value).toArray s 0 0 (pt_fr ad s.heap.size)) (F0 m 60 ls []) := by
        intro n60
        induction n60 with
        | zero => intro x2 x3 x4 x5 x6 x7 x8 x9 M H locs ls hw; exact hw.elim
        | succ n60 ih60 =>
          have J104 : ∀ (x2 : Int32) (x3 : Int32) (x4 : Int32) (x5 : Int32) (x6 : Int32) (x7 : Int32) (x8 : Int32) (x9 : Int32) (M : pt_M) (H : Heap) (locs : List Loc) (ls : Array Slot), wjL_isSound_104 n0 f0 Q (lpL_isSound_18 n0 f0 Q n18) (lpL_isSound_60 n0 f0 Q (lpL_isSound_18 n0 f0 Q n18) n60) x2 x3 x4 x5 x6 x7 x8 x9 M → va_P D pt_cl (pt_W cA ad M ++ [(a0, .inl (cA 0, n0, .inl f0))]) H → va_D (fun _ => True) (pt_W cA ad M ++ [(a0, .inl (cA 0, n0, .inl f0))]) → va_S (pt_fr ad s.heap.size) s.heap H locs → lv_has ls 10 [(0, .ref (ad 0)), (1, .ref a0), (2, .int x2), (3, .int x3), (4, .int x4), (5, .int x5), (6, .int x6), (7, .int x7), (8, .int x8), (9, .int x9)] → W p l e (headSpec (Cond.code yL_isSound cL_isSound 10 (some .boolean) :: lw_all) ({ frames := 3, cells := 0, slots := 0, locals := 66 } : Room)).room s m ([.ref (ad 0), .ref a0] : List Value).toArray below meth c H locs 0 0 (MQ below (va_Qi Q (pt_B D cA ad) (pt_fr ad s.heap.size)) ([.ref (ad 0), .ref a0] : List Value).toArray s 0 0 (pt_fr ad s.heap.size)) (F0 m 104 ls []) := by
            intro x2 x3 x4 x5 x6 x7 x8 x9 M H locs ls hw hP hD hS hl
            unfold wjL_isSound_104 at hw
            obtain ⟨x9_104, ex9_104⟩ : ∃ y : Int32, y = x9 + 1 := ⟨_, rfl⟩
            replace hw := hw x9_104 ex9_104
            refine lv_iinc (v := x9_104) (lv' := [(9, .int x9_104), (0, .ref (ad 0)), (1, .ref a0), (2, .int x2), (3, .int x3), (4, .int x4), (5, .int x5), (6, .int x6), (7, .int x7), (8, .int x8)]) hx hb dL_isSound_104 hl (k := 9) rfl (by rw [ex9_104]; rfl) (by decide) rfl (fun ls hl => ?_)
            refine lv_goto (tgt := 60) hx hb dL_isSound_107 (by decide) ?_
            exact ih60 x2 x3 x4 x5 x6 x7 x8 x9_104 M _ _ _ hw (pt_xpick hP [0] rfl) (pt_xpickD hD [0] (by decide) rfl) hS (lv_sub hl [1, 2, 3, 4, 5, 6, 7, 8, 9, 0] rfl)
          intro x2 x3 x4 x5 x6 x7 x8 x9 M H locs ls hw hP hD hS hl
          replace hw : lbL_isSound_60 n0 f0 Q (lpL_isSound_18 n0 f0 Q n18) (lpL_isSound_60 n0 f0 Q (lpL_isSound_18 n0 f0 Q n18) n60) x2 x3 x4 x5 x6 x7 x8 x9 M := hw
          unfold lbL_isSound_60 at hw
          refine lv_iload hx hb dL_isSound_60 (lv_at hl 9 rfl) ?_
          refine lv_aload_n hx hb dL_isSound_62 rfl (lv_at hl 1 rfl) ?_
          refine pt_xlen F hP 0 rfl dL_isSound_63 ?_
          refine lv_icmp_ge (tgt := 110) hx hb dL_isSound_64 (by decide) (fun hc64 => ?_) (fun hc64 => ?_)
          · replace hw := hw.1 hc64
            refine lv_aload_n hx hb dL_isSound_110 rfl (lv_at hl 0 rfl) ?_
            refine lv_iload hx hb dL_isSound_111 (lv_at hl 4 rfl) ?_
            refine lv_iconst (v := 3) hx hb dL_isSound_113 (by decide) ?_
            refine pt_calli (pt_runV (n := 2) (As := [.int x4, .int 3]) (rest := []) F (pt_xP.mp hP).1 (pt_c7 _ pt_k0) (pt_l7 pt_k0) rfl (mtX7_ofState l D cA ad hI _ x4 3 M _ hw) kw_732 kw_833 kw_26 kw_730 kw_731 ⟨by decide, by decide, by decide +kernel⟩ ⟨rfl, rfl, Nat.le_of_ble_eq_true rfl, Nat.le_of_ble_eq_true rfl⟩ rfl hl.1 rfl (Nat.le_of_ble_eq_true rfl) dL_isSound_114 ⟨(Nat.le_trans (by omega) s_cb), (Nat.le_trans (by omega) s_sb)⟩) hS hAf (fun r_114 M_114 H_ locs hw hP1 hS _ ho => ?_)
            replace hP := pt_xback hP hD hP1 ho
            replace hD := pt_xeng (M1 := M_114) hD
            clear hP1 ho
            refine lv_iload hx hb dL_isSound_117 (lv_at hl 7 rfl) ?_
            refine lv_icmp_ne (tgt := 186) hx hb dL_isSound_119 (by decide) (fun hc119 => ?_) (fun hc119 => ?_)
            · replace hw := hw.1 hc119
              exact J186 M_114 _ _ _ hw (pt_xpick hP [] rfl) (pt_xpickD hD [] (by decide) rfl) hS (lv_sub hl [] rfl)
            · replace hw := hw.2 hc119
              refine lv_aload_n hx hb dL_isSound_122 rfl (lv_at hl 0 rfl) ?_
              refine lv_iload hx hb dL_isSound_123 (lv_at hl 4 rfl) ?_
              refine pt_calli (pt_runV (n := 1) (As := [.int x4]) (rest := []) F (pt_xP.mp hP).1 (pt_c7 _ pt_k0) (pt_l7 pt_k0) rfl (mtX7_ageOf l D cA ad hI _ x4 M_114 _ hw) kw_737 kw_834 kw_26 kw_735 kw_736 ⟨by decide, by decide, by decide +kernel⟩ ⟨rfl, rfl, Nat.le_of_ble_eq_true rfl, Nat.le_of_ble_eq_true rfl⟩ rfl hl.1 rfl (Nat.le_of_ble_eq_true rfl) dL_isSound_125 ⟨(Nat.le_trans (by omega) s_cb), (Nat.le_trans (by omega) s_sb)⟩) hS hAf (fun r_125 M_125 H_ locs hw hP1 hS _ ho => ?_)
              replace hP := pt_xback hP hD hP1 ho
              replace hD := pt_xeng (M1 := M_125) hD
              clear hP1 ho
              refine lv_if_lt (tgt := 135) hx hb dL_isSound_128 (by decide) (fun hc128 => ?_) (fun hc128 => ?_)
              · replace hw := hw.1 hc128
                refine lv_iconst (v := 0) hx hb dL_isSound_135 (by decide) ?_
                exact J136 x2 x3 x4 x5 x6 x7 x8 0 M_125 _ _ _ hw (pt_xpick hP [0] rfl) (pt_xpickD hD [0] (by decide) rfl) hS (lv_sub hl [0, 1, 2, 3, 4, 5, 6, 7, 8] rfl)
              · replace hw := hw.2 hc128
                refine lv_iconst (v := 1) hx hb dL_isSound_131 (by decide) ?_
                refine lv_goto (tgt := 136) hx hb dL_isSound_132 (by decide) ?_
                exact J136 x2 x3 x4 x5 x6 x7 x8 1 M_125 _ _ _ hw (pt_xpick hP [0] rfl) (pt_xpickD hD [0] (by decide) rfl) hS (lv_sub hl [0, 1, 2, 3, 4, 5, 6, 7, 8] rfl)
          · replace hw := hw.2 hc64
            refine lv_aload_n hx hb dL_isSound_67 rfl (lv_at hl 0 rfl) ?_
            refine lv_iload hx hb dL_isSound_68 (lv_at hl 9 rfl) ?_
            refine lv_iconst (v := 1) hx hb dL_isSound_70 (by decide) ?_
            refine pt_calli (pt_runV (n := 2) (As := [.int x9, .int 1]) (rest := []) F (pt_xP.mp hP).1 (pt_c7 _ pt_k0) (pt_l7 pt_k0) rfl (mtX7_ofState l D cA ad hI _ x9 1 M _ hw) kw_732 kw_833 kw_26 kw_730 kw_731 ⟨by decide, by decide, by decide +kernel⟩ ⟨rfl, rfl, Nat.le_of_ble_eq_true rfl, Nat.le_of_ble_eq_true rfl⟩ rfl hl.1 rfl (Nat.le_of_ble_eq_true rfl) dL_isSound_71 ⟨(Nat.le_trans (by omega) s_cb), (Nat.le_trans (by omega) s_sb)⟩) hS hAf (fun r_71 M_71 H_ locs hw hP1 hS _ ho => ?_)
            replace hP := pt_xback hP hD hP1 ho
            replace hD := pt_xeng (M1 := M_71) hD
            clear hP1 ho
            refine lv_iload hx hb dL_isSound_74 (lv_at hl 4 rfl) ?_
            refine lv_icmp_ne (tgt := 104) hx hb dL_isSound_76 (by decide) (fun hc76 => ?_) (fun hc76 => ?_)
            · replace hw := hw.1 hc76
              exact J104 x2 x3 x4 x5 x6 x7 x8 x9 M_71 _ _ _ hw (pt_xpick hP [0] rfl) (pt_xpickD hD [0] (by decide) rfl) hS (lv_sub hl [0, 1, 2, 3, 4, 5, 6, 7, 8, 9] rfl)
            · replace hw := hw.2 hc76
              refine lv_aload_n hx hb dL_isSound_79 rfl (lv_at hl 1 rfl) ?_
              refine lv_iload hx hb dL_isSound_80 (lv_at hl 9 rfl) ?_
              have hv82 := hw.1
              replace hw := hw.2
              refine pt_xild F hP 0 rfl hv82 dL_isSound_82 ?_
              refine lv_iconst (v := 2) hx hb dL_isSound_83 (by decide) ?_
              refine lv_icmp_le (tgt := 90) hx hb dL_isSound_84 (by decide) (fun hc84 => ?_) (fun hc84 => ?_)
              · replace hw := hw.1 hc84
                obtain ⟨x7_90, ex7_90⟩ : ∃ y : Int32, y = x7 + 1 := ⟨_, rfl⟩
                replace hw := hw x7_90 ex7_90
                refine lv_iinc (v := x7_90) (lv' := [(7, .int x7_90), (0, .ref (ad 0)), (1, .ref a0), (2, .int x2), (3, .int x3), (4, .int x4), (5, .int x5), (6, .int x6), (8, .int x8), (9, .int x9)]) hx hb dL_isSound_90 hl (k := 7) rfl (by rw [ex7_90]; rfl) (by decide) rfl (fun ls hl => ?_)
                refine lv_iload hx hb dL_isSound_93 (lv_at hl 8 rfl) ?_
                refine lv_iload_n hx hb dL_isSound_95 rfl (lv_at hl 3 rfl) ?_
                refine lv_iload hx hb dL_isSound_96 (lv_at hl 9 rfl) ?_
                refine lv_ishr hx hb dL_isSound_98 ?_
                refine lv_iconst (v := 1) hx hb dL_isSound_99 (by decide) ?_
                refine lv_iand hx hb dL_isSound_100 ?_
                refine lv_iadd hx hb dL_isSound_101 ?_
                refine lv_topi (fun x8_102 ex8_102 => ?_)
                replace hw := hw x8_102 ex8_102
                refine lv_istore (lv' := [(8, .int x8_102), (7, .int x7_90), (0, .ref (ad 0)), (1, .ref a0), (2, .int x2), (3, .int x3), (4, .int x4), (5, .int x5), (6, .int x6), (9, .int x9)]) hx hb dL_isSound_102 hl (by decide) rfl (fun ls hl => ?_)
                exact J104 x2 x3 x4 x5 x6 x7_90 x8_102 x9 M_71 _ _ _ hw (pt_xpick hP [0] rfl) (pt_xpickD hD [0] (by decide) rfl) hS (lv_sub hl [2, 3, 4, 5, 6, 7, 8, 1, 0, 9] rfl)
              · replace hw := hw.2 hc84
                refine lv_goto (tgt := 104) hx hb dL_isSound_87 (by decide) ?_
                exact J104 x2 x3 x4 x5 x6 x7 x8 x9 M_71 _ _ _ hw (pt_xpick hP [0] rfl) (pt_xpickD hD [0] (by decide) rfl) hS (lv_sub hl [0, 1, 2, 3, 4, 5, 6, 7, 8, 9] rfl)
      have J40 : ∀ (x2 : Int32) (x3 : Int32) (x4 : Int32) (xs0 : Int32) (M : pt_M) (H : Heap) (locs : List Loc) (ls : Array Slot), wjL_isSound_40 n0 f0 Q (lpL_isSound_18 n0 f0 Q n18) x2 x3 x4 xs0 M → va_P D pt_cl (pt_W cA ad M ++ [(a0, .inl (cA 0, n0, .inl f0))]) H → va_D (fun _ => True) (pt_W cA ad M ++ [(a0, .inl (cA 0, n0, .inl f0))]) → va_S (pt_fr ad s.heap.size) s.heap H locs → lv_has ls 10 [(0, .ref (ad 0)), (1, .ref a0), (2, .int x2), (3, .int x3), (4, .int x4)] → W p l e (headSpec (Cond.code yL_isSound cL_isSound 10 (some .boolean) :: lw_all) ({ frames := 3, cells := 0, slots := 0, locals := 66 } : Room)).room s m ([.ref (ad 0), .ref a0] : List Value).toArray below meth c H locs 0 0 (MQ below (va_Qi Q (pt_B D cA ad) (pt_fr ad s.heap.size)) ([.ref (ad 0), .ref a0] : List Value).toArray s 0 0 (pt_fr ad s.heap.size)) (F0 m 40 ls [.int xs0]) := by
        intro x2 x3 x4 xs0 M H locs ls hw hP hD hS hl
        unfold wjL_isSound_40 at hw
        refine lv_istore (lv' := [(5, .int xs0), (0, .ref (ad 0)), (1, .ref a0), (2, .int x2), (3, .int x3), (4, .int x4)]) hx hb dL_isSound_40 hl (by decide) rfl (fun ls hl => ?_)
        refine lv_aload_n hx hb dL_isSound_42 rfl (lv_at hl 1 rfl) ?_
        refine lv_iload hx hb dL_isSound_43 (lv_at hl 5 rfl) ?_
        refine lv_iconst (v := 1) hx hb dL_isSound_45 (by decide) ?_
        refine pt_calli (pt_runV (n := 2) (As := [.int x4, .int 1]) (rest := []) F (pt_xP.mp hP).1 (pt_c7 _ pt_k0) (pt_l7 pt_k0) rfl (mtX7_ofState l D cA ad hI _ x4 1 M _ hw) kw_732 kw_833 kw_26 kw_730 kw_731 ⟨by decide, by decide, by decide +kernel⟩ ⟨rfl, rfl, Nat.le_of_ble_eq_true rfl, Nat.le_of_ble_eq_true rfl⟩ rfl hl.1 rfl (Nat.le_of_ble_eq_true rfl) dL_isSound_46 ⟨(Nat.le_trans (by omega) s_cb), (Nat.le_trans (by omega) s_sb)⟩) hS hAf (fun r_46 M_46 H_ locs hw hP1 hS _ ho => ?_)
        replace hP := pt_xback hP hD hP1 ho
        replace hD := pt_xeng (M1 := M_46) hD
        clear hP1 ho
        refine lv_istore (lv' := [(6, .int r_46), (5, .int xs0), (0, .ref (ad 0)), (1, .ref a0), (2, .int x2), (3, .int x3), (4, .int x4)]) hx hb dL_isSound_49 hl (by decide) rfl (fun ls hl => ?_)
        refine lv_iconst (v := 0) hx hb dL_isSound_51 (by decide) ?_
        refine lv_istore (lv' := [(7, .int 0), (6, .int r_46), (5, .int xs0), (0, .ref (ad 0)), (1, .ref a0), (2, .int x2), (3, .int x3), (4, .int x4)]) hx hb dL_isSound_52 hl (by decide) rfl (fun ls hl => ?_)
        refine lv_iconst (v := 0) hx hb dL_isSound_54 (by decide) ?_
        refine lv_istore (lv' := [(8, .int 0), (7, .int 0), (6, .int r_46), (5, .int xs0), (0, .ref (ad 0)), (1, .ref a0), (2, .int x2), (3, .int x3), (4, .int x4)]) hx hb dL_isSound_55 hl (by decide) rfl (fun ls hl => ?_)
        refine lv_iconst (v := 0) hx hb dL_isSound_57 (by decide) ?_
        refine lv_istore (lv' := [(9, .int 0), (8, .int 0), (7, .int 0), (6, .int r_46), (5, .int xs0), (0, .ref (ad 0)), (1, .ref a0), (2, .int x2), (3, .int x3), (4, .int x4)]) hx hb dL_isSound_58 hl (by decide) rfl (fun ls hl => ?_)
        obtain ⟨n_, hw⟩ := hw
        exact L60 n_ x2 x3 x4 xs0 r_46 0 0 0 M_46 _ _ _ hw (pt_xpick hP [0] rfl) (pt_xpickD hD [0] (by decide) rfl) hS (lv_sub hl [5, 6, 7, 8, 9, 4, 3, 2, 1, 0] rfl)
      intro x2 x3 x4 M H locs ls hw hP hD hS hl
      replace hw : lbL_isSound_18 n0 f0 Q (lpL_isSound_18 n0 f0 Q n18) x2 x3 x4 M := hw
      unfold lbL_isSound_18 at hw
      refine lv_iload hx hb dL_isSound_18 (lv_at hl 4 rfl) ?_
      refine lv_aload_n hx hb dL_isSound_20 rfl (lv_at hl 1 rfl) ?_
      refine pt_xlen F hP 0 rfl dL_isSound_21 ?_
      refine lv_icmp_ge (tgt := 252) hx hb dL_isSound_22 (by decide) (fun hc22 => ?_) (fun hc22 => ?_)
      · replace hw := hw.1 hc22
        refine lv_aload_n hx hb dL_isSound_252 rfl (lv_at hl 0 rfl) ?_
        refine pt_calld (pt_runV (n := 0) (As := []) (rest := []) F (pt_xP.mp hP).1 (pt_c7 _ pt_k0) (pt_l7 pt_k0) rfl (mtX7_meanAge l D cA ad hI _ M _ hw) kw_838 kw_835 kw_26 kw_836 kw_837 ⟨by decide, by decide, by decide +kernel⟩ ⟨rfl, rfl, Nat.le_of_ble_eq_true rfl, Nat.le_of_ble_eq_true rfl⟩ rfl hl.1 rfl (Nat.le_of_ble_eq_true rfl) dL_isSound_253 ⟨(Nat.le_trans (by omega) s_cb), (Nat.le_trans (by omega) s_sb)⟩) hS hAf (fun r_253 M_253 H_ locs hw hP1 hS _ ho => ?_)
        replace hP := pt_xback hP hD hP1 ho
        replace hD := pt_xeng (M1 := M_253) hD
        clear hP1 ho
        refine lv_iload_n hx hb dL_isSound_256 rfl (lv_at hl 3 rfl) ?_
        refine lv_i2d hx hb dL_isSound_257 ?_
        refine lv_iload_n hx hb dL_isSound_258 rfl (lv_at hl 2 rfl) ?_
        refine pt_calli (pt_runS (n := 1) (As := [.int x2]) (rest := [.double (FP.i2d x3), .double r_253]) F (pt_xP.mp hP).1 (mtJ6_bitCount_0f7a4 l D cA ad hI _ x2 M_253 _ hw) kw_510 kw_839 kw_41 kw_509 ⟨by decide, by decide, by decide +kernel⟩ ⟨rfl, rfl, Nat.le_of_ble_eq_true rfl, Nat.le_of_ble_eq_true rfl⟩ rfl hl.1 rfl (Nat.le_of_ble_eq_true rfl) dL_isSound_259 ⟨(Nat.le_trans (by omega) s_cb), (Nat.le_trans (by omega) s_sb)⟩) hS hAf (fun r_259 M_259 H_ locs hw hP1 hS _ ho => ?_)
        replace hP := pt_xback hP hD hP1 ho
        replace hD := pt_xeng (M1 := M_259) hD
        clear hP1 ho
        refine lv_i2d hx hb dL_isSound_262 ?_
        have hz263 := hw.1
        replace hw := hw.2
        refine lv_ddiv hx hb dL_isSound_263 hz263 ?_
        refine lv_dcmp hx hb dL_isSound_264 ?_
        refine lv_topi (fun r_264 er_264 => ?_)
        replace hw := hw r_264 er_264
        refine lv_if_ne (tgt := 272) hx hb dL_isSound_265 (by decide) (fun hc265 => ?_) (fun hc265 => ?_)
        · replace hw := hw.1 hc265
          refine lv_iconst (v := 0) hx hb dL_isSound_272 (by decide) ?_
          exact J273 0 M_259 _ _ _ hw (pt_xpick hP [] rfl) (pt_xpickD hD [] (by decide) rfl) hS (lv_sub hl [] rfl)
        · replace hw := hw.2 hc265
          refine lv_iconst (v := 1) hx hb dL_isSound_268 (by decide) ?_
          refine lv_goto (tgt := 273) hx hb dL_isSound_269 (by decide) ?_
          exact J273 1 M_259 _ _ _ hw (pt_xpick hP [] rfl) (pt_xpickD hD [] (by decide) rfl) hS (lv_sub hl [] rfl)
      · replace hw := hw.2 hc22
        refine lv_iload_n hx hb dL_isSound_25 rfl (lv_at hl 2 rfl) ?_
        refine lv_iload hx hb dL_isSound_26 (lv_at hl 4 rfl) ?_
        refine lv_ishr hx hb dL_isSound_28 ?_
        refine lv_iconst (v := 1) hx hb dL_isSound_29 (by decide) ?_
        refine lv_iand hx hb dL_isSound_30 ?_
        refine lv_iconst (v := 1) hx hb dL_isSound_31 (by decide) ?_
        refine lv_icmp_ne (tgt := 39) hx hb dL_isSound_32 (by decide) (fun hc32 => ?_) (fun hc32 => ?_)
        · replace hw := hw.1 hc32
          refine lv_iconst (v := 0) hx hb dL_isSound_39 (by decide) ?_
          exact J40 x2 x3 x4 0 M _ _ _ hw (pt_xpick hP [0] rfl) (pt_xpickD hD [0] (by decide) rfl) hS (lv_sub hl [0, 1, 2, 3, 4] rfl)
        · replace hw := hw.2 hc32
          refine lv_iconst (v := 1) hx hb dL_isSound_35 (by decide) ?_
          refine lv_goto (tgt := 40) hx hb dL_isSound_36 (by decide) ?_
          exact J40 x2 x3 x4 1 M _ _ _ hw (pt_xpick hP [0] rfl) (pt_xpickD hD [0] (by decide) rfl) hS (lv_sub hl [0, 1, 2, 3, 4] rfl)
  unfold wpL_isSound at hw
  refine lv_aload_n hx hb dL_isSound_0 rfl (lv_at hl 0 rfl) ?_
  refine pt_calli (pt_runV (n := 0) (As := []) (rest := []) F (pt_xP.mp hP).1 (pt_c7 _ pt_k0) (pt_l7 pt_k0) rfl (mtX7_active l D cA ad hI _ M _ hw) kw_592 kw_589 kw_26 kw_590 kw_591 ⟨by decide, by decide, by decide +kernel⟩ ⟨rfl, rfl, Nat.le_of_ble_eq_true rfl, Nat.le_of_ble_eq_true rfl⟩ rfl hl.1 rfl (Nat.le_of_ble_eq_true rfl) dL_isSound_1 ⟨(Nat.le_trans (by omega) s_cb), (Nat.le_trans (by omega) s_sb)⟩) hS hAf (fun r_1 M_1 H_ locs hw hP1 hS _ ho => ?_)
  replace hP := pt_xback hP hD hP1 ho
  replace hD := pt_xeng (M1 := M_1) hD
  clear hP1 ho
  refine lv_istore_n (lv' := [(2, .int r_1), (0, .ref (ad 0)), (1, .ref a0)]) hx hb dL_isSound_4 rfl hl (by decide) rfl (fun ls hl => ?_)
  refine lv_iconst (v := 0) hx hb dL_isSound_5 (by decide) ?_
  refine lv_istore_n (lv' := [(3, .int 0), (2, .int r_1), (0, .ref (ad 0)), (1, .ref a0)]) hx hb dL_isSound_6 rfl hl (by decide) rfl (fun ls hl => ?_)
  refine lv_iload_n hx hb dL_isSound_7 rfl (lv_at hl 1 rfl) ?_
  refine lv_iconst (v := 1) hx hb dL_isSound_8 (by decide) ?_
  refine lv_iand hx hb dL_isSound_9 ?_
  refine lv_if_ne (tgt := 15) hx hb dL_isSound_10 (by decide) (fun hc10 => ?_) (fun hc10 => ?_)
  · replace hw := hw.1 hc10
    refine lv_iconst (v := 0) hx hb dL_isSound_15 (by decide) ?_
    refine lv_istore (lv' := [(4, .int 0), (3, .int 0), (2, .int r_1), (0, .ref (ad 0)), (1, .ref a0)]) hx hb dL_isSound_16 hl (by decide) rfl (fun ls hl => ?_)
    obtain ⟨n_, hw⟩ := hw
    exact L18 n_ r_1 0 0 M_1 _ _ _ hw (pt_xpick hP [0] rfl) (pt_xpickD hD [0] (by decide) rfl) hS (lv_sub hl [3, 4, 2, 1, 0] rfl)
  · replace hw := hw.2 hc10
    refine lv_iconst (v := 0) hx hb dL_isSound_13 (by decide) ?_
    exact W.zret (v := 0) (ty := .boolean) hx hb hr rfl (fun t ht hW => ⟨⟨0, M_1, rfl, hw, by unfold pt_B; rw [ht]; exact (pt_xP.mp hP).1⟩, hS.F ht⟩) hS.2.2 dL_isSound_14
