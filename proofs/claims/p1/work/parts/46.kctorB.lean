/-! Chart, Look, PuppetTheatre: their objects in numbers -/
def pk_S (f : Nat → Nat → Nat) (n : Nat) : va_W := (List.range n).flatMap (fun s => pk5 (f s 0) (f s 1, f s 2))
def pk_T (f : Nat → Nat → Nat) (n : Nat) : va_W := (List.range n).flatMap (fun s => pk6 (f s 0) (f s 1))
def pk_Q (cA : Nat → ClassId) (f : Nat → Nat → Nat) (n : Nat) : va_W := (List.range n).flatMap (fun s => pk4 cA (f s 0) (f s 1, f s 2, f s 3))
def pk_up (f : Nat → Nat → Nat) (n a b c d : Nat) : Nat → Nat → Nat := fun i j => if i = n then (if j = 0 then a else if j = 1 then b else if j = 2 then c else d) else f i j
theorem pk_fm {f g : Nat → va_W} {n : Nat} (h : ∀ i, i < n → f i = g i) : (List.range n).flatMap f = (List.range n).flatMap g := by
  induction n with
  | zero => rfl
  | succ n ih =>
    rw [List.range_succ, List.flatMap_append, List.flatMap_append, ih (fun i hi => h i (by omega))]
    simp [h n (by omega)]
theorem pk_S1 (f : Nat → Nat → Nat) (n a b c d : Nat) : pk_S (pk_up f n a b c d) (n + 1) = pk_S f n ++ pk5 a (b, c) := by
  unfold pk_S
  rw [List.range_succ, List.flatMap_append, pk_fm (g := fun s => pk5 (f s 0) (f s 1, f s 2)) (fun i hi => by simp [pk_up, show i ≠ n by omega])]
  simp [pk_up]
theorem pk_T1 (f : Nat → Nat → Nat) (n a b c d : Nat) : pk_T (pk_up f n a b c d) (n + 1) = pk_T f n ++ pk6 a b := by
  unfold pk_T
  rw [List.range_succ, List.flatMap_append, pk_fm (g := fun s => pk6 (f s 0) (f s 1)) (fun i hi => by simp [pk_up, show i ≠ n by omega])]
  simp [pk_up]
theorem pk_Q1 (cA : Nat → ClassId) (f : Nat → Nat → Nat) (n a b c d : Nat) : pk_Q cA (pk_up f n a b c d) (n + 1) = pk_Q cA f n ++ pk4 cA a (b, c, d) := by
  unfold pk_Q
  rw [List.range_succ, List.flatMap_append, pk_fm (g := fun s => pk4 cA (f s 0) (f s 1, f s 2, f s 3)) (fun i hi => by simp [pk_up, show i ≠ n by omega])]
  simp [pk_up]
theorem pk_up0 (f : Nat → Nat → Nat) (n a b c d j : Nat) : pk_up f n a b c d j 0 = if j = n then a else f j 0 := by
  unfold pk_up
  split <;> simp
theorem pk_gup {g : Nat → Option Nat} {f : Nat → Nat → Nat} {x : Int32} {i a b c d : Nat} (ex : x = nI i) (hi : i < 2 ^ 31) (hg : ∀ j, j < i → g j = some (f j 0)) : ∀ j, j < i + 1 → va_up g x.toNatClampNeg (some a) j = some (pk_up f i a b c d j 0) := by
  intro j hj
  rw [ex, nI_clamp hi, pk_up0]
  unfold va_up
  split
  · rfl
  · exact hg j (by omega)
theorem pk_move (B Y X : va_W) : List.Perm (B ++ (Y ++ X)) ((B ++ X) ++ Y) := by
  rw [List.append_assoc]
  exact List.Perm.append_left B List.perm_append_comm
def pkC (cA : Nat → ClassId) (a : Nat) (u : Nat × Nat × Nat × (Nat → Nat → Nat) × (Nat → Nat → Nat)) : va_W := match u with
  | (qs, qt, qc, fS, fT) => [(a, .inr (1, [.ref qs, .ref qt, .ref qc, .int 1, .int 0, .int 1, .int 0])), (qs, .inl (cA 1, 20, .inr (.inr (.inr (.inr (fun i => some (fS i 0))))))), (qt, .inl (cA 2, 30, .inr (.inr (.inr (.inr (fun i => some (fT i 0))))))), (qc, .inl (cA 0, 12, .inl (fun _ => 0)))] ++ (pk_S fS 20 ++ pk_T fT 30)
set_option maxHeartbeats 8000000 in
set_option maxRecDepth 100000 in
theorem mtX1_init (l : Launch) (D : va_G) (cA : Nat → ClassId) (sz a : Nat) : Met l yX1_init (Cond.code yX1_init cX1_init 2 none :: lw_all) ({ frames := 3, cells := 123, slots := 722, locals := 52 } : Room) (va_Pc [.ref a] (pt_KP D cA sz (a, .inr (1, [.null, .null, .null, .int 0, .int 0, .int 0, .int 0])))) (va_Qv (fun _ : Nat × Nat × Nat × (Nat → Nat → Nat) × (Nat → Nat → Nat) => True) (pt_KB D a sz (pkC cA a)) (pt_KA a sz)) 123 722 (pt_KA a sz) := by
  refine Met.ofW (cc := cX1_init) (maxL := 2) (ret := none) (by decide) rfl ?_
  intro p e s m args below meth c s₁ B hml hv
  obtain ⟨rfl, hsz, hP, hK⟩ := hv
  have hx := B.exec
  have hb := B.bytes
  have hr := B.returns
  have hts0 := atoms_spec (ws := (Cond.code yX1_init cX1_init 2 none :: lw_all)) B.pre
  have hown : s.vm.findClass RX1 = some m.cls := findClass_of_methodNamed B.named
  have hlocks := B.notSynchronized
  have hin : meth.name = "<init>" := (name_of_methodNamed B.named B.method).1
  subst hsz
  have F : pt_F p m c cX1_init 2 s _ RX1 D cA := ⟨⟨hx, hb, hml, hown, fun w h => hts0 w (List.mem_cons_of_mem _ h)⟩, hK⟩
  have s_cb : 123 ≤ (headSpec (Cond.code yX1_init cX1_init 2 none :: lw_all) ({ frames := 3, cells := 123, slots := 722, locals := 52 } : Room)).room.cells := Nat.le_of_ble_eq_true rfl
  have s_sb : 722 ≤ (headSpec (Cond.code yX1_init cX1_init 2 none :: lw_all) ({ frames := 3, cells := 123, slots := 722, locals := 52 } : Room)).room.slots := Nat.le_of_ble_eq_true rfl
  have hS : va_S (pt_KA a s.heap.size) s.heap s.heap [] := va_S.rf
  have hA : ∀ q, s.heap.size ≤ q → pt_KA a s.heap.size q := fun q h => Or.inr h
  replace hP : va_P D pt_cl (([] : va_W) ++ [(a, .inr (1, [.null, .null, .null, .int 0, .int 0, .int 0, .int 0]))]) s.heap := hP
  have hD : va_D (pt_KA a s.heap.size) (([] : va_W) ++ [(a, .inr (1, [.null, .null, .null, .int 0, .int 0, .int 0, .int 0]))]) := pt_kD1
  have hl := lv_entry ([.ref a]) (n := 2) (Nat.le_of_ble_eq_true rfl)
  rw [lg_entry_eq]
  generalize (lg_sl ([.ref a]) ++ List.replicate (2 - (lg_sl ([.ref a])).length) Slot.unset).toArray = ls at hl ⊢
  have hl : lv_has ls 2 [(0, .ref a)] := hl
  refine lv_aload_n hx hb dX1_init_0 rfl (lv_at hl 0 rfl) ?_
  refine W.objInit hx hb hown (F.1.2.2.2.2 _ kw_96) (F.1.2.2.2.2 _ kw_89) (F.1.2.2.2.2 _ kw_90) rfl (by rw [hml]; exact hl.1) rfl dX1_init_1 (Nat.le_of_ble_eq_true rfl) (Nat.le_of_ble_eq_true rfl) ?_
  refine W.eq (g2 := F0 m 4 ls []) rfl ?_
  refine lv_aload_n hx hb dX1_init_4 rfl (lv_at hl 0 rfl) ?_
  refine lv_bipush (v := 20) hx hb dX1_init_5 (by decide) ?_
  refine pt_ynewq (N := 20) F hP hD hS hA 1 rfl kw_97 kw_98 (by decide) (by decide) (by decide) (Nat.le_trans (by omega) s_cb) (Nat.le_trans (by omega) s_sb) dX1_init_7 (fun q7 H hP hD hS => ?_)
  replace hP : va_P D pt_cl (([] : va_W) ++ [(a, .inr (1, [.null, .null, .null, .int 0, .int 0, .int 0, .int 0])), (q7, .inl (cA 1, 20, .inr (.inr (.inr (.inr (fun _ => none))))))]) H := hP
  replace hD : va_D (pt_KA a s.heap.size) (([] : va_W) ++ [(a, .inr (1, [.null, .null, .null, .int 0, .int 0, .int 0, .int 0])), (q7, .inl (cA 1, 20, .inr (.inr (.inr (.inr (fun _ => none))))))]) := hD
  refine W.widen (k := 1) (n := 20) (by omega) (by omega) ?_
  refine pt_yputF (Y' := [(a, .inr (1, [.ref q7, .null, .null, .int 0, .int 0, .int 0, .int 0])), (q7, .inl (cA 1, 20, .inr (.inr (.inr (.inr (fun _ => none))))))]) F hP hD hS hin 0 rfl inX1 tyX1 tyX1_ok nmX1 rfl 0 (by decide) kw_222 rfl rfl rfl rfl rfl (Nat.le_of_ble_eq_true rfl) rfl dX1_init_10 (fun H locs hP hD hS => ?_)
  refine lv_aload_n hx hb dX1_init_13 rfl (lv_at hl 0 rfl) ?_
  refine lv_bipush (v := 30) hx hb dX1_init_14 (by decide) ?_
  refine pt_ynewq (N := 30) F hP hD hS hA 2 rfl kw_99 kw_100 (by decide) (by decide) (by decide) (Nat.le_trans (by omega) s_cb) (Nat.le_trans (by omega) s_sb) dX1_init_16 (fun q16 H hP hD hS => ?_)
  replace hP : va_P D pt_cl (([] : va_W) ++ [(a, .inr (1, [.ref q7, .null, .null, .int 0, .int 0, .int 0, .int 0])), (q7, .inl (cA 1, 20, .inr (.inr (.inr (.inr (fun _ => none)))))), (q16, .inl (cA 2, 30, .inr (.inr (.inr (.inr (fun _ => none))))))]) H := hP
  replace hD : va_D (pt_KA a s.heap.size) (([] : va_W) ++ [(a, .inr (1, [.ref q7, .null, .null, .int 0, .int 0, .int 0, .int 0])), (q7, .inl (cA 1, 20, .inr (.inr (.inr (.inr (fun _ => none)))))), (q16, .inl (cA 2, 30, .inr (.inr (.inr (.inr (fun _ => none))))))]) := hD
  refine W.widen (k := 2) (n := 50) (by omega) (by omega) ?_
  refine pt_yputF (Y' := [(a, .inr (1, [.ref q7, .ref q16, .null, .int 0, .int 0, .int 0, .int 0])), (q7, .inl (cA 1, 20, .inr (.inr (.inr (.inr (fun _ => none)))))), (q16, .inl (cA 2, 30, .inr (.inr (.inr (.inr (fun _ => none))))))]) F hP hD hS hin 0 rfl inX1 tyX1 tyX1_ok nmX1 rfl 1 (by decide) kw_225 rfl rfl rfl rfl rfl (Nat.le_of_ble_eq_true rfl) rfl dX1_init_19 (fun H locs hP hD hS => ?_)
  refine lv_aload_n hx hb dX1_init_22 rfl (lv_at hl 0 rfl) ?_
  refine lv_bipush (v := 12) hx hb dX1_init_23 (by decide) ?_
  refine pt_xnew (N := 12) F hP hD hS hA kw_128 (by decide) (by decide) (by decide) (Nat.le_trans (by omega) s_cb) (Nat.le_trans (by omega) s_sb) dX1_init_25 (fun q25 H hP hD hS => ?_)
  replace hP : va_P D pt_cl (([] : va_W) ++ [(a, .inr (1, [.ref q7, .ref q16, .null, .int 0, .int 0, .int 0, .int 0])), (q7, .inl (cA 1, 20, .inr (.inr (.inr (.inr (fun _ => none)))))), (q16, .inl (cA 2, 30, .inr (.inr (.inr (.inr (fun _ => none)))))), (q25, .inl (cA 0, 12, .inl (fun _ => 0)))]) H := hP
  replace hD : va_D (pt_KA a s.heap.size) (([] : va_W) ++ [(a, .inr (1, [.ref q7, .ref q16, .null, .int 0, .int 0, .int 0, .int 0])), (q7, .inl (cA 1, 20, .inr (.inr (.inr (.inr (fun _ => none)))))), (q16, .inl (cA 2, 30, .inr (.inr (.inr (.inr (fun _ => none)))))), (q25, .inl (cA 0, 12, .inl (fun _ => 0)))]) := hD
  refine W.widen (k := 3) (n := 62) (by omega) (by omega) ?_
  refine pt_yputF (Y' := [(a, .inr (1, [.ref q7, .ref q16, .ref q25, .int 0, .int 0, .int 0, .int 0])), (q7, .inl (cA 1, 20, .inr (.inr (.inr (.inr (fun _ => none)))))), (q16, .inl (cA 2, 30, .inr (.inr (.inr (.inr (fun _ => none)))))), (q25, .inl (cA 0, 12, .inl (fun _ => 0)))]) F hP hD hS hin 0 rfl inX1 tyX1 tyX1_ok nmX1 rfl 2 (by decide) kw_228 rfl rfl rfl rfl rfl (Nat.le_of_ble_eq_true rfl) rfl dX1_init_27 (fun H locs hP hD hS => ?_)
  refine lv_aload_n hx hb dX1_init_30 rfl (lv_at hl 0 rfl) ?_
  refine lv_iconst (v := 1) hx hb dX1_init_31 (by decide) ?_
  refine pt_yput (Y' := [(a, .inr (1, [.ref q7, .ref q16, .ref q25, .int 1, .int 0, .int 0, .int 0])), (q7, .inl (cA 1, 20, .inr (.inr (.inr (.inr (fun _ => none)))))), (q16, .inl (cA 2, 30, .inr (.inr (.inr (.inr (fun _ => none)))))), (q25, .inl (cA 0, 12, .inl (fun _ => 0)))]) F hP hD hS 0 rfl inX1 tyX1 tyX1_ok nmX1 rfl 3 (by decide) kw_230 rfl rfl rfl rfl (Nat.le_of_ble_eq_true rfl) rfl dX1_init_32 (fun H locs hP hD hS => ?_)
  refine lv_aload_n hx hb dX1_init_35 rfl (lv_at hl 0 rfl) ?_
  refine lv_iconst (v := 0) hx hb dX1_init_36 (by decide) ?_
  refine pt_callp (pt_runPN (n := 1) (As := [.int 0]) (rest := [.ref a]) F (mtP_setOf l 0) (fun _ _ _ _ h => h) (fun _ _ _ => trivial) kw_103 kw_101 kw_52 kw_102 ⟨by decide, by decide, by decide +kernel⟩ ⟨rfl, rfl, Nat.le_of_ble_eq_true rfl, Nat.le_of_ble_eq_true rfl⟩ rfl hl.1 rfl (Nat.le_of_ble_eq_true rfl) dX1_init_37 ⟨(Nat.le_trans (by omega) s_cb), (Nat.le_trans (by omega) s_sb)⟩) hS (fun r37 H locs er37 ho hS => ?_)
  replace hP := pt_xkeep hP ho
  replace er37 : r37 = 1 := by rw [er37]; decide
  subst er37
  refine pt_yput (Y' := [(a, .inr (1, [.ref q7, .ref q16, .ref q25, .int 1, .int 0, .int 1, .int 0])), (q7, .inl (cA 1, 20, .inr (.inr (.inr (.inr (fun _ => none)))))), (q16, .inl (cA 2, 30, .inr (.inr (.inr (.inr (fun _ => none)))))), (q25, .inl (cA 0, 12, .inl (fun _ => 0)))]) F hP hD hS 0 rfl inX1 tyX1 tyX1_ok nmX1 rfl 5 (by decide) kw_236 rfl rfl rfl rfl (Nat.le_of_ble_eq_true rfl) rfl dX1_init_40 (fun H locs hP hD hS => ?_)
  refine lv_iconst (v := 0) hx hb dX1_init_43 (by decide) ?_
  refine lv_istore_n (lv' := [(1, .int 0), (0, .ref a)]) hx hb dX1_init_44 rfl hl (by decide) rfl (fun ls hl => ?_)
  have K2 : ∀ (n i : Nat) (x1 : Int32) (gs gt : Nat → Option Nat) (fS fT : Nat → Nat → Nat), i ≤ 30 → 31 ≤ i + n → x1 = nI i → (∀ j, j < 20 → gs j = some (fS j 0)) → (∀ j, j < i → gt j = some (fT j 0)) → ∀ (H : Heap) (locs : List Loc) (ls : Array Slot), va_P D pt_cl ((pk_S fS 20 ++ pk_T fT i) ++ [(a, .inr (1, [.ref q7, .ref q16, .ref q25, .int 1, .int 0, .int 1, .int 0])), (q7, .inl (cA 1, 20, .inr (.inr (.inr (.inr gs))))), (q16, .inl (cA 2, 30, .inr (.inr (.inr (.inr gt))))), (q25, .inl (cA 0, 12, .inl (fun _ => 0)))]) H → va_D (pt_KA a s.heap.size) ((pk_S fS 20 ++ pk_T fT i) ++ [(a, .inr (1, [.ref q7, .ref q16, .ref q25, .int 1, .int 0, .int 1, .int 0])), (q7, .inl (cA 1, 20, .inr (.inr (.inr (.inr gs))))), (q16, .inl (cA 2, 30, .inr (.inr (.inr (.inr gt))))), (q25, .inl (cA 0, 12, .inl (fun _ => 0)))]) → va_S (pt_KA a s.heap.size) s.heap H locs → lv_has ls 2 [(0, .ref a), (1, .int x1)] → W p l e (headSpec (Cond.code yX1_init cX1_init 2 none :: lw_all) ({ frames := 3, cells := 123, slots := 722, locals := 52 } : Room)).room s m ([.ref a] : List Value).toArray below meth c H locs (63 + 2 * i) (362 + 12 * i) (MQ below (va_Qv (fun _ : Nat × Nat × Nat × (Nat → Nat → Nat) × (Nat → Nat → Nat) => True) (pt_KB D a s.heap.size (pkC cA a)) (pt_KA a s.heap.size)) ([.ref a] : List Value).toArray s 123 722 (pt_KA a s.heap.size)) (F0 m 75 ls []) := by
    intro n
    induction n with
    | zero => intro i x1 gs gt fS fT h1 h2; exact absurd h2 (by omega)
    | succ n ih =>
      intro i x1 gs gt fS fT hi hin2 ex1 hgs hgt H locs ls hP hD hS hl
      refine lv_iload_n hx hb dX1_init_75 rfl (lv_at hl 1 rfl) ?_
      refine lv_aload_n hx hb dX1_init_76 rfl (lv_at hl 0 rfl) ?_
      refine pt_yget F hP 0 rfl inX1 rfl 1 (by decide) kw_225 rfl rfl dX1_init_77 ?_
      refine pt_ylen F hP 2 2 rfl rfl dX1_init_80 ?_
      refine lv_icmp_ge (tgt := 103) hx hb dX1_init_81 (by decide) (fun hc => ?_) (fun hc => ?_)
      · have h30 : 30 ≤ i := pt_geI ex1 (by omega) hc
        obtain rfl : i = 30 := by omega
        replace hP := pt_xfunq (Y' := [(a, .inr (1, [.ref q7, .ref q16, .ref q25, .int 1, .int 0, .int 1, .int 0])), (q7, .inl (cA 1, 20, .inr (.inr (.inr (.inr (fun i => some (fS i 0))))))), (q16, .inl (cA 2, 30, .inr (.inr (.inr (.inr gt))))), (q25, .inl (cA 0, 12, .inl (fun _ => 0)))]) hP 1 rfl (fun j hj => hgs j hj) rfl
        replace hD := pt_xsetD (e' := .inl (cA 1, 20, .inr (.inr (.inr (.inr (fun i => some (fS i 0))))))) (Y' := [(a, .inr (1, [.ref q7, .ref q16, .ref q25, .int 1, .int 0, .int 1, .int 0])), (q7, .inl (cA 1, 20, .inr (.inr (.inr (.inr (fun i => some (fS i 0))))))), (q16, .inl (cA 2, 30, .inr (.inr (.inr (.inr gt))))), (q25, .inl (cA 0, 12, .inl (fun _ => 0)))]) hD 1 rfl rfl
        replace hP := pt_xfunq (Y' := [(a, .inr (1, [.ref q7, .ref q16, .ref q25, .int 1, .int 0, .int 1, .int 0])), (q7, .inl (cA 1, 20, .inr (.inr (.inr (.inr (fun i => some (fS i 0))))))), (q16, .inl (cA 2, 30, .inr (.inr (.inr (.inr (fun i => some (fT i 0))))))), (q25, .inl (cA 0, 12, .inl (fun _ => 0)))]) hP 2 rfl (fun j hj => hgt j hj) rfl
        replace hD := pt_xsetD (e' := .inl (cA 2, 30, .inr (.inr (.inr (.inr (fun i => some (fT i 0))))))) (Y' := [(a, .inr (1, [.ref q7, .ref q16, .ref q25, .int 1, .int 0, .int 1, .int 0])), (q7, .inl (cA 1, 20, .inr (.inr (.inr (.inr (fun i => some (fS i 0))))))), (q16, .inl (cA 2, 30, .inr (.inr (.inr (.inr (fun i => some (fT i 0))))))), (q25, .inl (cA 0, 12, .inl (fun _ => 0)))]) hD 2 rfl rfl
        replace hP := pt_permP hP List.perm_append_comm
        replace hD := pt_permD hD List.perm_append_comm
        exact W.vret hx hb hr (fun t ht hW => ⟨⟨(q7, q16, q25, fS, fT), rfl, trivial, by rw [ht]; exact hP, hD⟩, hS.F ht⟩) hS.2.2 dX1_init_103
      · have hi30 : i < 30 := pt_ltI ex1 (by omega) hc
        have hvin : vp_in x1 30 := by rw [ex1]; exact vp_in_nI hi30 (by omega)
        refine lv_aload_n hx hb dX1_init_84 rfl (lv_at hl 0 rfl) ?_
        refine pt_yget F hP 0 rfl inX1 rfl 1 (by decide) kw_225 rfl rfl dX1_init_85 ?_
        refine lv_iload_n hx hb dX1_init_88 rfl (lv_at hl 1 rfl) ?_
        refine pt_ynew (ci := 6) (fs := [.null, .int 0, .int 0, .int 0, .int 0, .int 0, .int 0, .int 0, .int 0]) F hP hD hS hA inX6 tyX6 tyX6_ok kw_99 kw_175 kw_56 rfl (fun j hj => by rcases (show j = 0 ∨ j = 1 ∨ j = 2 ∨ j = 3 ∨ j = 4 ∨ j = 5 ∨ j = 6 ∨ j = 7 ∨ j = 8 by omega) with rfl | rfl | rfl | rfl | rfl | rfl | rfl | rfl | rfl <;> rfl) (Nat.le_trans (by omega) s_cb) (Nat.le_trans (by omega) s_sb) dX1_init_89 (fun q89 H hP hD hS => ?_)
        replace hP : va_P D pt_cl ((pk_S fS 20 ++ pk_T fT i) ++ [(a, .inr (1, [.ref q7, .ref q16, .ref q25, .int 1, .int 0, .int 1, .int 0])), (q7, .inl (cA 1, 20, .inr (.inr (.inr (.inr gs))))), (q16, .inl (cA 2, 30, .inr (.inr (.inr (.inr gt))))), (q25, .inl (cA 0, 12, .inl (fun _ => 0))), (q89, .inr (6, [.null, .int 0, .int 0, .int 0, .int 0, .int 0, .int 0, .int 0, .int 0]))]) H := hP
        replace hD : va_D (pt_KA a s.heap.size) ((pk_S fS 20 ++ pk_T fT i) ++ [(a, .inr (1, [.ref q7, .ref q16, .ref q25, .int 1, .int 0, .int 1, .int 0])), (q7, .inl (cA 1, 20, .inr (.inr (.inr (.inr gs))))), (q16, .inl (cA 2, 30, .inr (.inr (.inr (.inr gt))))), (q25, .inl (cA 0, 12, .inl (fun _ => 0))), (q89, .inr (6, [.null, .int 0, .int 0, .int 0, .int 0, .int 0, .int 0, .int 0, .int 0]))]) := hD
        refine W.widen (k := (64 + 2 * i)) (n := (371 + 12 * i)) (by omega) (by omega) ?_
        refine lv_dup hx hb dX1_init_92 rfl ?_
        refine pt_kcall (Y := [(a, .inr (1, [.ref q7, .ref q16, .ref q25, .int 1, .int 0, .int 1, .int 0])), (q7, .inl (cA 1, 20, .inr (.inr (.inr (.inr gs))))), (q16, .inl (cA 2, 30, .inr (.inr (.inr (.inr gt))))), (q25, .inl (cA 0, 12, .inl (fun _ => 0)))]) (x := (q89, .inr (6, [.null, .int 0, .int 0, .int 0, .int 0, .int 0, .int 0, .int 0, .int 0]))) (pt_krun (n := 0) (As := []) (rest := [.ref q89, .int x1, .ref q16]) F (mtX6_init l D cA _ q89) pt_kblind (fun U hU hW => ⟨by rw [hU], by rw [hU]; exact (pt_xP.mp (pt_xpick hP [4] rfl)).2, va_K.moved hW.alike F.2⟩) kw_178 (Or.inr ⟨_, kw_176⟩) kw_56 kw_177 rfl ⟨by decide, by decide, by decide +kernel⟩ ⟨rfl, rfl, Nat.le_of_ble_eq_true rfl, Nat.le_of_ble_eq_true rfl⟩ rfl hl.1 rfl (Nat.le_of_ble_eq_true rfl) dX1_init_93 ⟨(Nat.le_trans (by omega) s_cb), (Nat.le_trans (by omega) s_sb)⟩) hP hD hS hA (fun c_93 H locs _ hP hD hS => ?_)
        replace hP : va_P D pt_cl ((pk_S fS 20 ++ pk_T fT i) ++ [(a, .inr (1, [.ref q7, .ref q16, .ref q25, .int 1, .int 0, .int 1, .int 0])), (q7, .inl (cA 1, 20, .inr (.inr (.inr (.inr gs))))), (q16, .inl (cA 2, 30, .inr (.inr (.inr (.inr gt))))), (q25, .inl (cA 0, 12, .inl (fun _ => 0))), (q89, .inr (6, [.ref c_93, .int 0, .int 0, .int 0, .int (-1), .int (-1), .int 0, .int 0, .int 0])), (c_93, .inr (0, [.int 0, .int 0, .int 0]))]) H := hP
        replace hD : va_D (pt_KA a s.heap.size) ((pk_S fS 20 ++ pk_T fT i) ++ [(a, .inr (1, [.ref q7, .ref q16, .ref q25, .int 1, .int 0, .int 1, .int 0])), (q7, .inl (cA 1, 20, .inr (.inr (.inr (.inr gs))))), (q16, .inl (cA 2, 30, .inr (.inr (.inr (.inr gt))))), (q25, .inl (cA 0, 12, .inl (fun _ => 0))), (q89, .inr (6, [.ref c_93, .int 0, .int 0, .int 0, .int (-1), .int (-1), .int 0, .int 0, .int 0])), (c_93, .inr (0, [.int 0, .int 0, .int 0]))]) := hD
        refine W.widen (k := (65 + 2 * i)) (n := (374 + 12 * i)) (by omega) (by omega) ?_
        refine pt_yast (Y' := fun f1 => [(a, .inr (1, [.ref q7, .ref q16, .ref q25, .int 1, .int 0, .int 1, .int 0])), (q7, .inl (cA 1, 20, .inr (.inr (.inr (.inr gs))))), (q16, .inl (cA 2, 30, .inr (.inr (.inr (.inr f1))))), (q25, .inl (cA 0, 12, .inl (fun _ => 0))), (q89, .inr (6, [.ref c_93, .int 0, .int 0, .int 0, .int (-1), .int (-1), .int 0, .int 0, .int 0])), (c_93, .inr (0, [.int 0, .int 0, .int 0]))]) F hP hD hS 2 2 4 rfl rfl rfl rfl hvin dX1_init_96 (fun _ => rfl) (fun g96 H locs eg96 hP hD hS => ?_)
        obtain ⟨y97, ey97⟩ : ∃ y : Int32, y = x1 + 1 := ⟨_, rfl⟩
        refine lv_iinc (v := y97) (lv' := [(1, .int y97), (0, .ref a)]) hx hb dX1_init_97 hl (k := 1) rfl (by rw [ey97]; rfl) (by decide) rfl (fun ls hl => ?_)
        refine lv_goto (tgt := 75) hx hb dX1_init_100 (by decide) ?_
        replace hP := pt_permP hP (pk_move (pk_S fS 20 ++ pk_T fT i) [(a, .inr (1, [.ref q7, .ref q16, .ref q25, .int 1, .int 0, .int 1, .int 0])), (q7, .inl (cA 1, 20, .inr (.inr (.inr (.inr gs))))), (q16, .inl (cA 2, 30, .inr (.inr (.inr (.inr g96))))), (q25, .inl (cA 0, 12, .inl (fun _ => 0)))] (pk6 q89 c_93))
        replace hD := pt_permD hD (pk_move (pk_S fS 20 ++ pk_T fT i) [(a, .inr (1, [.ref q7, .ref q16, .ref q25, .int 1, .int 0, .int 1, .int 0])), (q7, .inl (cA 1, 20, .inr (.inr (.inr (.inr gs))))), (q16, .inl (cA 2, 30, .inr (.inr (.inr (.inr g96))))), (q25, .inl (cA 0, 12, .inl (fun _ => 0)))] (pk6 q89 c_93))
        have eB : (pk_S fS 20 ++ pk_T fT i) ++ pk6 q89 c_93 = (pk_S fS 20 ++ pk_T (pk_up fT i q89 c_93 0 0) (i + 1)) := by rw [pk_T1, List.append_assoc]
        rw [eB] at hP hD
        refine W.widen (k := 63 + 2 * (i + 1)) (n := 362 + 12 * (i + 1)) (by omega) (by omega) ?_
        exact ih (i + 1) y97 gs g96 fS (pk_up fT i q89 c_93 0 0) (by omega) (by omega) (by rw [ey97, ex1]; exact nI_1 i) hgs (by rw [eg96]; exact pk_gup ex1 (by omega) hgt) _ _ _ hP hD hS (lv_sub hl [1, 0] rfl)
  suffices K1 : ∀ (n i : Nat) (x1 : Int32) (gs : Nat → Option Nat) (fS : Nat → Nat → Nat), i ≤ 20 → 21 ≤ i + n → x1 = nI i → (∀ j, j < i → gs j = some (fS j 0)) → ∀ (H : Heap) (locs : List Loc) (ls : Array Slot), va_P D pt_cl (pk_S fS i ++ [(a, .inr (1, [.ref q7, .ref q16, .ref q25, .int 1, .int 0, .int 1, .int 0])), (q7, .inl (cA 1, 20, .inr (.inr (.inr (.inr gs))))), (q16, .inl (cA 2, 30, .inr (.inr (.inr (.inr (fun _ => none)))))), (q25, .inl (cA 0, 12, .inl (fun _ => 0)))]) H → va_D (pt_KA a s.heap.size) (pk_S fS i ++ [(a, .inr (1, [.ref q7, .ref q16, .ref q25, .int 1, .int 0, .int 1, .int 0])), (q7, .inl (cA 1, 20, .inr (.inr (.inr (.inr gs))))), (q16, .inl (cA 2, 30, .inr (.inr (.inr (.inr (fun _ => none)))))), (q25, .inl (cA 0, 12, .inl (fun _ => 0)))]) → va_S (pt_KA a s.heap.size) s.heap H locs → lv_has ls 2 [(0, .ref a), (1, .int x1)] → W p l e (headSpec (Cond.code yX1_init cX1_init 2 none :: lw_all) ({ frames := 3, cells := 123, slots := 722, locals := 52 } : Room)).room s m ([.ref a] : List Value).toArray below meth c H locs (3 + 3 * i) (62 + 15 * i) (MQ below (va_Qv (fun _ : Nat × Nat × Nat × (Nat → Nat → Nat) × (Nat → Nat → Nat) => True) (pt_KB D a s.heap.size (pkC cA a)) (pt_KA a s.heap.size)) ([.ref a] : List Value).toArray s 123 722 (pt_KA a s.heap.size)) (F0 m 45 ls []) from K1 21 0 0 (fun _ => none) (fun _ _ => 0) (by omega) (by omega) rfl (fun j hj => absurd hj (Nat.not_lt_zero j)) _ _ _ hP hD hS (lv_sub hl [1, 0] rfl)
  clear hl hP hD hS
  intro n
  induction n with
  | zero => intro i x1 gs fS h1 h2; exact absurd h2 (by omega)
  | succ n ih =>
    intro i x1 gs fS hi hin2 ex1 hgs H locs ls hP hD hS hl
    refine lv_iload_n hx hb dX1_init_45 rfl (lv_at hl 1 rfl) ?_
    refine lv_aload_n hx hb dX1_init_46 rfl (lv_at hl 0 rfl) ?_
    refine pt_yget F hP 0 rfl inX1 rfl 0 (by decide) kw_222 rfl rfl dX1_init_47 ?_
    refine pt_ylen F hP 1 1 rfl rfl dX1_init_50 ?_
    refine lv_icmp_ge (tgt := 73) hx hb dX1_init_51 (by decide) (fun hc => ?_) (fun hc => ?_)
    · have h20 : 20 ≤ i := pt_geI ex1 (by omega) hc
      obtain rfl : i = 20 := by omega
      refine lv_iconst (v := 0) hx hb dX1_init_73 (by decide) ?_
      refine lv_istore_n (lv' := [(1, .int 0), (0, .ref a)]) hx hb dX1_init_74 rfl hl (by decide) rfl (fun ls hl => ?_)
      have eB : pk_S fS 20 = (pk_S fS 20 ++ pk_T (fun _ _ => 0) 0) := by show _ = _ ++ []; rw [List.append_nil]
      rw [eB] at hP hD
      exact K2 31 0 0 gs (fun _ => none) fS (fun _ _ => 0) (by omega) (by omega) rfl hgs (fun j hj => absurd hj (Nat.not_lt_zero j)) _ _ _ hP hD hS (lv_sub hl [1, 0] rfl)
    · have hi20 : i < 20 := pt_ltI ex1 (by omega) hc
      have hvin : vp_in x1 20 := by rw [ex1]; exact vp_in_nI hi20 (by omega)
      refine lv_aload_n hx hb dX1_init_54 rfl (lv_at hl 0 rfl) ?_
      refine pt_yget F hP 0 rfl inX1 rfl 0 (by decide) kw_222 rfl rfl dX1_init_55 ?_
      refine lv_iload_n hx hb dX1_init_58 rfl (lv_at hl 1 rfl) ?_
      refine pt_ynew (ci := 5) (fs := [.null, .null, .int 0, .int 0, .int 0, .int 0, .int 0, .int 0, .int 0]) F hP hD hS hA inX5 tyX5 tyX5_ok kw_97 kw_104 kw_54 rfl (fun j hj => by rcases (show j = 0 ∨ j = 1 ∨ j = 2 ∨ j = 3 ∨ j = 4 ∨ j = 5 ∨ j = 6 ∨ j = 7 ∨ j = 8 by omega) with rfl | rfl | rfl | rfl | rfl | rfl | rfl | rfl | rfl <;> rfl) (Nat.le_trans (by omega) s_cb) (Nat.le_trans (by omega) s_sb) dX1_init_59 (fun q59 H hP hD hS => ?_)
      replace hP : va_P D pt_cl (pk_S fS i ++ [(a, .inr (1, [.ref q7, .ref q16, .ref q25, .int 1, .int 0, .int 1, .int 0])), (q7, .inl (cA 1, 20, .inr (.inr (.inr (.inr gs))))), (q16, .inl (cA 2, 30, .inr (.inr (.inr (.inr (fun _ => none)))))), (q25, .inl (cA 0, 12, .inl (fun _ => 0))), (q59, .inr (5, [.null, .null, .int 0, .int 0, .int 0, .int 0, .int 0, .int 0, .int 0]))]) H := hP
      replace hD : va_D (pt_KA a s.heap.size) (pk_S fS i ++ [(a, .inr (1, [.ref q7, .ref q16, .ref q25, .int 1, .int 0, .int 1, .int 0])), (q7, .inl (cA 1, 20, .inr (.inr (.inr (.inr gs))))), (q16, .inl (cA 2, 30, .inr (.inr (.inr (.inr (fun _ => none)))))), (q25, .inl (cA 0, 12, .inl (fun _ => 0))), (q59, .inr (5, [.null, .null, .int 0, .int 0, .int 0, .int 0, .int 0, .int 0, .int 0]))]) := hD
      refine W.widen (k := (4 + 3 * i)) (n := (71 + 15 * i)) (by omega) (by omega) ?_
      refine lv_dup hx hb dX1_init_62 rfl ?_
      refine pt_kcall (Y := [(a, .inr (1, [.ref q7, .ref q16, .ref q25, .int 1, .int 0, .int 1, .int 0])), (q7, .inl (cA 1, 20, .inr (.inr (.inr (.inr gs))))), (q16, .inl (cA 2, 30, .inr (.inr (.inr (.inr (fun _ => none)))))), (q25, .inl (cA 0, 12, .inl (fun _ => 0)))]) (x := (q59, .inr (5, [.null, .null, .int 0, .int 0, .int 0, .int 0, .int 0, .int 0, .int 0]))) (pt_krun (n := 0) (As := []) (rest := [.ref q59, .int x1, .ref q7]) F (mtX5_init l D cA _ q59) pt_kblind (fun U hU hW => ⟨by rw [hU], by rw [hU]; exact (pt_xP.mp (pt_xpick hP [4] rfl)).2, va_K.moved hW.alike F.2⟩) kw_107 (Or.inr ⟨_, kw_105⟩) kw_54 kw_106 rfl ⟨by decide, by decide, by decide +kernel⟩ ⟨rfl, rfl, Nat.le_of_ble_eq_true rfl, Nat.le_of_ble_eq_true rfl⟩ rfl hl.1 rfl (Nat.le_of_ble_eq_true rfl) dX1_init_63 ⟨(Nat.le_trans (by omega) s_cb), (Nat.le_trans (by omega) s_sb)⟩) hP hD hS hA (fun u_63 H locs _ hP hD hS => ?_)
      obtain ⟨e_63, l_63⟩ := u_63
      replace hP : va_P D pt_cl (pk_S fS i ++ [(a, .inr (1, [.ref q7, .ref q16, .ref q25, .int 1, .int 0, .int 1, .int 0])), (q7, .inl (cA 1, 20, .inr (.inr (.inr (.inr gs))))), (q16, .inl (cA 2, 30, .inr (.inr (.inr (.inr (fun _ => none)))))), (q25, .inl (cA 0, 12, .inl (fun _ => 0))), (q59, .inr (5, [.ref e_63, .ref l_63, .int 0, .int (-1), .int (-1), .int 0, .int 0, .int 0, .int 0])), (e_63, .inr (0, [.int 0, .int 0, .int 0])), (l_63, .inr (0, [.int 0, .int 0, .int 0]))]) H := hP
      replace hD : va_D (pt_KA a s.heap.size) (pk_S fS i ++ [(a, .inr (1, [.ref q7, .ref q16, .ref q25, .int 1, .int 0, .int 1, .int 0])), (q7, .inl (cA 1, 20, .inr (.inr (.inr (.inr gs))))), (q16, .inl (cA 2, 30, .inr (.inr (.inr (.inr (fun _ => none)))))), (q25, .inl (cA 0, 12, .inl (fun _ => 0))), (q59, .inr (5, [.ref e_63, .ref l_63, .int 0, .int (-1), .int (-1), .int 0, .int 0, .int 0, .int 0])), (e_63, .inr (0, [.int 0, .int 0, .int 0])), (l_63, .inr (0, [.int 0, .int 0, .int 0]))]) := hD
      refine W.widen (k := (6 + 3 * i)) (n := (77 + 15 * i)) (by omega) (by omega) ?_
      refine pt_yast (Y' := fun f1 => [(a, .inr (1, [.ref q7, .ref q16, .ref q25, .int 1, .int 0, .int 1, .int 0])), (q7, .inl (cA 1, 20, .inr (.inr (.inr (.inr f1))))), (q16, .inl (cA 2, 30, .inr (.inr (.inr (.inr (fun _ => none)))))), (q25, .inl (cA 0, 12, .inl (fun _ => 0))), (q59, .inr (5, [.ref e_63, .ref l_63, .int 0, .int (-1), .int (-1), .int 0, .int 0, .int 0, .int 0])), (e_63, .inr (0, [.int 0, .int 0, .int 0])), (l_63, .inr (0, [.int 0, .int 0, .int 0]))]) F hP hD hS 1 1 4 rfl rfl rfl rfl hvin dX1_init_66 (fun _ => rfl) (fun g66 H locs eg66 hP hD hS => ?_)
      obtain ⟨y67, ey67⟩ : ∃ y : Int32, y = x1 + 1 := ⟨_, rfl⟩
      refine lv_iinc (v := y67) (lv' := [(1, .int y67), (0, .ref a)]) hx hb dX1_init_67 hl (k := 1) rfl (by rw [ey67]; rfl) (by decide) rfl (fun ls hl => ?_)
      refine lv_goto (tgt := 45) hx hb dX1_init_70 (by decide) ?_
      replace hP := pt_permP hP (pk_move (pk_S fS i) [(a, .inr (1, [.ref q7, .ref q16, .ref q25, .int 1, .int 0, .int 1, .int 0])), (q7, .inl (cA 1, 20, .inr (.inr (.inr (.inr g66))))), (q16, .inl (cA 2, 30, .inr (.inr (.inr (.inr (fun _ => none)))))), (q25, .inl (cA 0, 12, .inl (fun _ => 0)))] (pk5 q59 (e_63, l_63)))
      replace hD := pt_permD hD (pk_move (pk_S fS i) [(a, .inr (1, [.ref q7, .ref q16, .ref q25, .int 1, .int 0, .int 1, .int 0])), (q7, .inl (cA 1, 20, .inr (.inr (.inr (.inr g66))))), (q16, .inl (cA 2, 30, .inr (.inr (.inr (.inr (fun _ => none)))))), (q25, .inl (cA 0, 12, .inl (fun _ => 0)))] (pk5 q59 (e_63, l_63)))
      rw [← pk_S1 fS i q59 e_63 l_63 0] at hP hD
      refine W.widen (k := 3 + 3 * (i + 1)) (n := 62 + 15 * (i + 1)) (by omega) (by omega) ?_
      exact ih (i + 1) y67 g66 (pk_up fS i q59 e_63 l_63 0) (by omega) (by omega) (by rw [ey67, ex1]; exact nI_1 i) (by rw [eg66]; exact pk_gup ex1 (by omega) hgs) _ _ _ hP hD hS (lv_sub hl [1, 0] rfl)
def pkL (cA : Nat → ClassId) (a h : Nat) (u : Nat × Nat × Nat × Nat × Nat × (Nat → Nat → Nat)) : va_W := match u with
  | (q1, q2, q3, q4, q5, fQ) => [(a, .inr (2, [.ref q1, .int 0, .int 0, .ref h, .ref q2, .ref q3, .ref q4, .ref q5, .int 0])), (q1, .inl (cA 0, 8, .inl (fun _ => 0))), (q2, .inl (cA 3, 60, .inr (.inr (.inr (.inr (fun i => some (fQ i 0))))))), (q3, .inl (cA 0, 60, .inl (fun _ => 0))), (q4, .inl (cA 0, 60, .inl (fun _ => 0))), (q5, .inl (cA 0, 60, .inl (fun _ => 0)))] ++ pk_Q cA fQ 60
set_option maxHeartbeats 8000000 in
set_option maxRecDepth 100000 in
theorem mtX2_init (l : Launch) (D : va_G) (cA : Nat → ClassId) (sz a : Nat) (h : Nat) : Met l yX2_init (Cond.code yX2_init cX2_init 3 none :: lw_all) ({ frames := 2, cells := 245, slots := 3128, locals := 33 } : Room) (va_Pc [.ref a, .ref h] (pt_KP D cA sz (a, .inr (2, [.null, .int 0, .int 0, .null, .null, .null, .null, .null, .int 0])))) (va_Qv (fun _ : Nat × Nat × Nat × Nat × Nat × (Nat → Nat → Nat) => True) (pt_KB D a sz (pkL cA a h)) (pt_KA a sz)) 245 3128 (pt_KA a sz) := by
  refine Met.ofW (cc := cX2_init) (maxL := 3) (ret := none) (by decide) rfl ?_
  intro p e s m args below meth c s₁ B hml hv
  obtain ⟨rfl, hsz, hP, hK⟩ := hv
  have hx := B.exec
  have hb := B.bytes
  have hr := B.returns
  have hts0 := atoms_spec (ws := (Cond.code yX2_init cX2_init 3 none :: lw_all)) B.pre
  have hown : s.vm.findClass RX2 = some m.cls := findClass_of_methodNamed B.named
  have hlocks := B.notSynchronized
  have hin : meth.name = "<init>" := (name_of_methodNamed B.named B.method).1
  subst hsz
  have F : pt_F p m c cX2_init 3 s _ RX2 D cA := ⟨⟨hx, hb, hml, hown, fun w h => hts0 w (List.mem_cons_of_mem _ h)⟩, hK⟩
  have s_cb : 245 ≤ (headSpec (Cond.code yX2_init cX2_init 3 none :: lw_all) ({ frames := 2, cells := 245, slots := 3128, locals := 33 } : Room)).room.cells := Nat.le_of_ble_eq_true rfl
  have s_sb : 3128 ≤ (headSpec (Cond.code yX2_init cX2_init 3 none :: lw_all) ({ frames := 2, cells := 245, slots := 3128, locals := 33 } : Room)).room.slots := Nat.le_of_ble_eq_true rfl
  have hS : va_S (pt_KA a s.heap.size) s.heap s.heap [] := va_S.rf
  have hA : ∀ q, s.heap.size ≤ q → pt_KA a s.heap.size q := fun q h => Or.inr h
  replace hP : va_P D pt_cl (([] : va_W) ++ [(a, .inr (2, [.null, .int 0, .int 0, .null, .null, .null, .null, .null, .int 0]))]) s.heap := hP
  have hD : va_D (pt_KA a s.heap.size) (([] : va_W) ++ [(a, .inr (2, [.null, .int 0, .int 0, .null, .null, .null, .null, .null, .int 0]))]) := pt_kD1
  have hl := lv_entry ([.ref a, .ref h]) (n := 3) (Nat.le_of_ble_eq_true rfl)
  rw [lg_entry_eq]
  generalize (lg_sl ([.ref a, .ref h]) ++ List.replicate (3 - (lg_sl ([.ref a, .ref h])).length) Slot.unset).toArray = ls at hl ⊢
  have hl : lv_has ls 3 [(0, .ref a), (1, .ref h)] := hl
  refine lv_aload_n hx hb dX2_init_0 rfl (lv_at hl 0 rfl) ?_
  refine W.objInit hx hb hown (F.1.2.2.2.2 _ kw_335) (F.1.2.2.2.2 _ kw_89) (F.1.2.2.2.2 _ kw_90) rfl (by rw [hml]; exact hl.1) rfl dX2_init_1 (Nat.le_of_ble_eq_true rfl) (Nat.le_of_ble_eq_true rfl) ?_
  refine W.eq (g2 := F0 m 4 ls []) rfl ?_
  refine lv_aload_n hx hb dX2_init_4 rfl (lv_at hl 0 rfl) ?_
  refine lv_bipush (v := 8) hx hb dX2_init_5 (by decide) ?_
  refine pt_xnew (N := 8) F hP hD hS hA kw_128 (by decide) (by decide) (by decide) (Nat.le_trans (by omega) s_cb) (Nat.le_trans (by omega) s_sb) dX2_init_7 (fun q7 H hP hD hS => ?_)
  replace hP : va_P D pt_cl (([] : va_W) ++ [(a, .inr (2, [.null, .int 0, .int 0, .null, .null, .null, .null, .null, .int 0])), (q7, .inl (cA 0, 8, .inl (fun _ => 0)))]) H := hP
  replace hD : va_D (pt_KA a s.heap.size) (([] : va_W) ++ [(a, .inr (2, [.null, .int 0, .int 0, .null, .null, .null, .null, .null, .int 0])), (q7, .inl (cA 0, 8, .inl (fun _ => 0)))]) := hD
  refine W.widen (k := 1) (n := 8) (by omega) (by omega) ?_
  refine pt_yputF (Y' := [(a, .inr (2, [.ref q7, .int 0, .int 0, .null, .null, .null, .null, .null, .int 0])), (q7, .inl (cA 0, 8, .inl (fun _ => 0)))]) F hP hD hS hin 0 rfl inX2 tyX2 tyX2_ok nmX2 rfl 0 (by decide) kw_339 rfl rfl rfl rfl rfl (Nat.le_of_ble_eq_true rfl) rfl dX2_init_9 (fun H locs hP hD hS => ?_)
  refine lv_aload_n hx hb dX2_init_12 rfl (lv_at hl 0 rfl) ?_
  refine lv_bipush (v := 60) hx hb dX2_init_13 (by decide) ?_
  refine pt_ynewq (N := 60) F hP hD hS hA 3 rfl kw_336 kw_337 (by decide) (by decide) (by decide) (Nat.le_trans (by omega) s_cb) (Nat.le_trans (by omega) s_sb) dX2_init_15 (fun q15 H hP hD hS => ?_)
  replace hP : va_P D pt_cl (([] : va_W) ++ [(a, .inr (2, [.ref q7, .int 0, .int 0, .null, .null, .null, .null, .null, .int 0])), (q7, .inl (cA 0, 8, .inl (fun _ => 0))), (q15, .inl (cA 3, 60, .inr (.inr (.inr (.inr (fun _ => none))))))]) H := hP
  replace hD : va_D (pt_KA a s.heap.size) (([] : va_W) ++ [(a, .inr (2, [.ref q7, .int 0, .int 0, .null, .null, .null, .null, .null, .int 0])), (q7, .inl (cA 0, 8, .inl (fun _ => 0))), (q15, .inl (cA 3, 60, .inr (.inr (.inr (.inr (fun _ => none))))))]) := hD
  refine W.widen (k := 2) (n := 68) (by omega) (by omega) ?_
  refine pt_yputF (Y' := [(a, .inr (2, [.ref q7, .int 0, .int 0, .null, .ref q15, .null, .null, .null, .int 0])), (q7, .inl (cA 0, 8, .inl (fun _ => 0))), (q15, .inl (cA 3, 60, .inr (.inr (.inr (.inr (fun _ => none))))))]) F hP hD hS hin 0 rfl inX2 tyX2 tyX2_ok nmX2 rfl 4 (by decide) kw_346 rfl rfl rfl rfl rfl (Nat.le_of_ble_eq_true rfl) rfl dX2_init_18 (fun H locs hP hD hS => ?_)
  refine lv_aload_n hx hb dX2_init_21 rfl (lv_at hl 0 rfl) ?_
  refine lv_bipush (v := 60) hx hb dX2_init_22 (by decide) ?_
  refine pt_xnew (N := 60) F hP hD hS hA kw_128 (by decide) (by decide) (by decide) (Nat.le_trans (by omega) s_cb) (Nat.le_trans (by omega) s_sb) dX2_init_24 (fun q24 H hP hD hS => ?_)
  replace hP : va_P D pt_cl (([] : va_W) ++ [(a, .inr (2, [.ref q7, .int 0, .int 0, .null, .ref q15, .null, .null, .null, .int 0])), (q7, .inl (cA 0, 8, .inl (fun _ => 0))), (q15, .inl (cA 3, 60, .inr (.inr (.inr (.inr (fun _ => none)))))), (q24, .inl (cA 0, 60, .inl (fun _ => 0)))]) H := hP
  replace hD : va_D (pt_KA a s.heap.size) (([] : va_W) ++ [(a, .inr (2, [.ref q7, .int 0, .int 0, .null, .ref q15, .null, .null, .null, .int 0])), (q7, .inl (cA 0, 8, .inl (fun _ => 0))), (q15, .inl (cA 3, 60, .inr (.inr (.inr (.inr (fun _ => none)))))), (q24, .inl (cA 0, 60, .inl (fun _ => 0)))]) := hD
  refine W.widen (k := 3) (n := 128) (by omega) (by omega) ?_
  refine pt_yputF (Y' := [(a, .inr (2, [.ref q7, .int 0, .int 0, .null, .ref q15, .ref q24, .null, .null, .int 0])), (q7, .inl (cA 0, 8, .inl (fun _ => 0))), (q15, .inl (cA 3, 60, .inr (.inr (.inr (.inr (fun _ => none)))))), (q24, .inl (cA 0, 60, .inl (fun _ => 0)))]) F hP hD hS hin 0 rfl inX2 tyX2 tyX2_ok nmX2 rfl 5 (by decide) kw_347 rfl rfl rfl rfl rfl (Nat.le_of_ble_eq_true rfl) rfl dX2_init_26 (fun H locs hP hD hS => ?_)
  refine lv_aload_n hx hb dX2_init_29 rfl (lv_at hl 0 rfl) ?_
  refine lv_bipush (v := 60) hx hb dX2_init_30 (by decide) ?_
  refine pt_xnew (N := 60) F hP hD hS hA kw_128 (by decide) (by decide) (by decide) (Nat.le_trans (by omega) s_cb) (Nat.le_trans (by omega) s_sb) dX2_init_32 (fun q32 H hP hD hS => ?_)
  replace hP : va_P D pt_cl (([] : va_W) ++ [(a, .inr (2, [.ref q7, .int 0, .int 0, .null, .ref q15, .ref q24, .null, .null, .int 0])), (q7, .inl (cA 0, 8, .inl (fun _ => 0))), (q15, .inl (cA 3, 60, .inr (.inr (.inr (.inr (fun _ => none)))))), (q24, .inl (cA 0, 60, .inl (fun _ => 0))), (q32, .inl (cA 0, 60, .inl (fun _ => 0)))]) H := hP
  replace hD : va_D (pt_KA a s.heap.size) (([] : va_W) ++ [(a, .inr (2, [.ref q7, .int 0, .int 0, .null, .ref q15, .ref q24, .null, .null, .int 0])), (q7, .inl (cA 0, 8, .inl (fun _ => 0))), (q15, .inl (cA 3, 60, .inr (.inr (.inr (.inr (fun _ => none)))))), (q24, .inl (cA 0, 60, .inl (fun _ => 0))), (q32, .inl (cA 0, 60, .inl (fun _ => 0)))]) := hD
  refine W.widen (k := 4) (n := 188) (by omega) (by omega) ?_
  refine pt_yputF (Y' := [(a, .inr (2, [.ref q7, .int 0, .int 0, .null, .ref q15, .ref q24, .ref q32, .null, .int 0])), (q7, .inl (cA 0, 8, .inl (fun _ => 0))), (q15, .inl (cA 3, 60, .inr (.inr (.inr (.inr (fun _ => none)))))), (q24, .inl (cA 0, 60, .inl (fun _ => 0))), (q32, .inl (cA 0, 60, .inl (fun _ => 0)))]) F hP hD hS hin 0 rfl inX2 tyX2 tyX2_ok nmX2 rfl 6 (by decide) kw_348 rfl rfl rfl rfl rfl (Nat.le_of_ble_eq_true rfl) rfl dX2_init_34 (fun H locs hP hD hS => ?_)
  refine lv_aload_n hx hb dX2_init_37 rfl (lv_at hl 0 rfl) ?_
  refine lv_bipush (v := 60) hx hb dX2_init_38 (by decide) ?_
  refine pt_xnew (N := 60) F hP hD hS hA kw_128 (by decide) (by decide) (by decide) (Nat.le_trans (by omega) s_cb) (Nat.le_trans (by omega) s_sb) dX2_init_40 (fun q40 H hP hD hS => ?_)
  replace hP : va_P D pt_cl (([] : va_W) ++ [(a, .inr (2, [.ref q7, .int 0, .int 0, .null, .ref q15, .ref q24, .ref q32, .null, .int 0])), (q7, .inl (cA 0, 8, .inl (fun _ => 0))), (q15, .inl (cA 3, 60, .inr (.inr (.inr (.inr (fun _ => none)))))), (q24, .inl (cA 0, 60, .inl (fun _ => 0))), (q32, .inl (cA 0, 60, .inl (fun _ => 0))), (q40, .inl (cA 0, 60, .inl (fun _ => 0)))]) H := hP
  replace hD : va_D (pt_KA a s.heap.size) (([] : va_W) ++ [(a, .inr (2, [.ref q7, .int 0, .int 0, .null, .ref q15, .ref q24, .ref q32, .null, .int 0])), (q7, .inl (cA 0, 8, .inl (fun _ => 0))), (q15, .inl (cA 3, 60, .inr (.inr (.inr (.inr (fun _ => none)))))), (q24, .inl (cA 0, 60, .inl (fun _ => 0))), (q32, .inl (cA 0, 60, .inl (fun _ => 0))), (q40, .inl (cA 0, 60, .inl (fun _ => 0)))]) := hD
  refine W.widen (k := 5) (n := 248) (by omega) (by omega) ?_
  refine pt_yputF (Y' := [(a, .inr (2, [.ref q7, .int 0, .int 0, .null, .ref q15, .ref q24, .ref q32, .ref q40, .int 0])), (q7, .inl (cA 0, 8, .inl (fun _ => 0))), (q15, .inl (cA 3, 60, .inr (.inr (.inr (.inr (fun _ => none)))))), (q24, .inl (cA 0, 60, .inl (fun _ => 0))), (q32, .inl (cA 0, 60, .inl (fun _ => 0))), (q40, .inl (cA 0, 60, .inl (fun _ => 0)))]) F hP hD hS hin 0 rfl inX2 tyX2 tyX2_ok nmX2 rfl 7 (by decide) kw_349 rfl rfl rfl rfl rfl (Nat.le_of_ble_eq_true rfl) rfl dX2_init_42 (fun H locs hP hD hS => ?_)
  refine lv_aload_n hx hb dX2_init_45 rfl (lv_at hl 0 rfl) ?_
  refine lv_aload_n hx hb dX2_init_46 rfl (lv_at hl 1 rfl) ?_
  refine pt_yputF (Y' := [(a, .inr (2, [.ref q7, .int 0, .int 0, .ref h, .ref q15, .ref q24, .ref q32, .ref q40, .int 0])), (q7, .inl (cA 0, 8, .inl (fun _ => 0))), (q15, .inl (cA 3, 60, .inr (.inr (.inr (.inr (fun _ => none)))))), (q24, .inl (cA 0, 60, .inl (fun _ => 0))), (q32, .inl (cA 0, 60, .inl (fun _ => 0))), (q40, .inl (cA 0, 60, .inl (fun _ => 0)))]) F hP hD hS hin 0 rfl inX2 tyX2 tyX2_ok nmX2 rfl 3 (by decide) kw_345 rfl rfl rfl rfl rfl (Nat.le_of_ble_eq_true rfl) rfl dX2_init_47 (fun H locs hP hD hS => ?_)
  refine lv_iconst (v := 0) hx hb dX2_init_50 (by decide) ?_
  refine lv_istore_n (lv' := [(2, .int 0), (0, .ref a), (1, .ref h)]) hx hb dX2_init_51 rfl hl (by decide) rfl (fun ls hl => ?_)
  suffices K1 : ∀ (n i : Nat) (x1 : Int32) (gq : Nat → Option Nat) (fQ : Nat → Nat → Nat), i ≤ 60 → 61 ≤ i + n → x1 = nI i → (∀ j, j < i → gq j = some (fQ j 0)) → ∀ (H : Heap) (locs : List Loc) (ls : Array Slot), va_P D pt_cl (pk_Q cA fQ i ++ [(a, .inr (2, [.ref q7, .int 0, .int 0, .ref h, .ref q15, .ref q24, .ref q32, .ref q40, .int 0])), (q7, .inl (cA 0, 8, .inl (fun _ => 0))), (q15, .inl (cA 3, 60, .inr (.inr (.inr (.inr gq))))), (q24, .inl (cA 0, 60, .inl (fun _ => 0))), (q32, .inl (cA 0, 60, .inl (fun _ => 0))), (q40, .inl (cA 0, 60, .inl (fun _ => 0)))]) H → va_D (pt_KA a s.heap.size) (pk_Q cA fQ i ++ [(a, .inr (2, [.ref q7, .int 0, .int 0, .ref h, .ref q15, .ref q24, .ref q32, .ref q40, .int 0])), (q7, .inl (cA 0, 8, .inl (fun _ => 0))), (q15, .inl (cA 3, 60, .inr (.inr (.inr (.inr gq))))), (q24, .inl (cA 0, 60, .inl (fun _ => 0))), (q32, .inl (cA 0, 60, .inl (fun _ => 0))), (q40, .inl (cA 0, 60, .inl (fun _ => 0)))]) → va_S (pt_KA a s.heap.size) s.heap H locs → lv_has ls 3 [(0, .ref a), (1, .ref h), (2, .int x1)] → W p l e (headSpec (Cond.code yX2_init cX2_init 3 none :: lw_all) ({ frames := 2, cells := 245, slots := 3128, locals := 33 } : Room)).room s m ([.ref a, .ref h] : List Value).toArray below meth c H locs (5 + 4 * i) (248 + 48 * i) (MQ below (va_Qv (fun _ : Nat × Nat × Nat × Nat × Nat × (Nat → Nat → Nat) => True) (pt_KB D a s.heap.size (pkL cA a h)) (pt_KA a s.heap.size)) ([.ref a, .ref h] : List Value).toArray s 245 3128 (pt_KA a s.heap.size)) (F0 m 52 ls []) from K1 61 0 0 (fun _ => none) (fun _ _ => 0) (by omega) (by omega) rfl (fun j hj => absurd hj (Nat.not_lt_zero j)) _ _ _ hP hD hS (lv_sub hl [1, 2, 0] rfl)
  clear hl hP hD hS
  intro n
  induction n with
  | zero => intro i x1 gq fQ h1 h2; exact absurd h2 (by omega)
  | succ n ih =>
    intro i x1 gq fQ hi hin2 ex1 hgq H locs ls hP hD hS hl
    refine lv_iload_n hx hb dX2_init_52 rfl (lv_at hl 2 rfl) ?_
    refine lv_aload_n hx hb dX2_init_53 rfl (lv_at hl 0 rfl) ?_
    refine pt_yget F hP 0 rfl inX2 rfl 4 (by decide) kw_346 rfl rfl dX2_init_54 ?_
    refine pt_ylen F hP 3 2 rfl rfl dX2_init_57 ?_
    refine lv_icmp_ge (tgt := 80) hx hb dX2_init_58 (by decide) (fun hc => ?_) (fun hc => ?_)
    · have h60 : 60 ≤ i := pt_geI ex1 (by omega) hc
      obtain rfl : i = 60 := by omega
      replace hP := pt_xfunq (Y' := [(a, .inr (2, [.ref q7, .int 0, .int 0, .ref h, .ref q15, .ref q24, .ref q32, .ref q40, .int 0])), (q7, .inl (cA 0, 8, .inl (fun _ => 0))), (q15, .inl (cA 3, 60, .inr (.inr (.inr (.inr (fun i => some (fQ i 0))))))), (q24, .inl (cA 0, 60, .inl (fun _ => 0))), (q32, .inl (cA 0, 60, .inl (fun _ => 0))), (q40, .inl (cA 0, 60, .inl (fun _ => 0)))]) hP 2 rfl (fun j hj => hgq j hj) rfl
      replace hD := pt_xsetD (e' := .inl (cA 3, 60, .inr (.inr (.inr (.inr (fun i => some (fQ i 0))))))) (Y' := [(a, .inr (2, [.ref q7, .int 0, .int 0, .ref h, .ref q15, .ref q24, .ref q32, .ref q40, .int 0])), (q7, .inl (cA 0, 8, .inl (fun _ => 0))), (q15, .inl (cA 3, 60, .inr (.inr (.inr (.inr (fun i => some (fQ i 0))))))), (q24, .inl (cA 0, 60, .inl (fun _ => 0))), (q32, .inl (cA 0, 60, .inl (fun _ => 0))), (q40, .inl (cA 0, 60, .inl (fun _ => 0)))]) hD 2 rfl rfl
      replace hP := pt_permP hP List.perm_append_comm
      replace hD := pt_permD hD List.perm_append_comm
      exact W.vret hx hb hr (fun t ht hW => ⟨⟨(q7, q15, q24, q32, q40, fQ), rfl, trivial, by rw [ht]; exact hP, hD⟩, hS.F ht⟩) hS.2.2 dX2_init_80
    · have hi60 : i < 60 := pt_ltI ex1 (by omega) hc
      have hvin : vp_in x1 60 := by rw [ex1]; exact vp_in_nI hi60 (by omega)
      refine lv_aload_n hx hb dX2_init_61 rfl (lv_at hl 0 rfl) ?_
      refine pt_yget F hP 0 rfl inX2 rfl 4 (by decide) kw_346 rfl rfl dX2_init_62 ?_
      refine lv_iload_n hx hb dX2_init_65 rfl (lv_at hl 2 rfl) ?_
      refine pt_ynew (ci := 4) (fs := [.null, .null, .null, .int 0]) F hP hD hS hA inX4 tyX4 tyX4_ok kw_336 kw_262 kw_58 rfl (fun j hj => by rcases (show j = 0 ∨ j = 1 ∨ j = 2 ∨ j = 3 by omega) with rfl | rfl | rfl | rfl <;> rfl) (Nat.le_trans (by omega) s_cb) (Nat.le_trans (by omega) s_sb) dX2_init_66 (fun q66 H hP hD hS => ?_)
      replace hP : va_P D pt_cl (pk_Q cA fQ i ++ [(a, .inr (2, [.ref q7, .int 0, .int 0, .ref h, .ref q15, .ref q24, .ref q32, .ref q40, .int 0])), (q7, .inl (cA 0, 8, .inl (fun _ => 0))), (q15, .inl (cA 3, 60, .inr (.inr (.inr (.inr gq))))), (q24, .inl (cA 0, 60, .inl (fun _ => 0))), (q32, .inl (cA 0, 60, .inl (fun _ => 0))), (q40, .inl (cA 0, 60, .inl (fun _ => 0))), (q66, .inr (4, [.null, .null, .null, .int 0]))]) H := hP
      replace hD : va_D (pt_KA a s.heap.size) (pk_Q cA fQ i ++ [(a, .inr (2, [.ref q7, .int 0, .int 0, .ref h, .ref q15, .ref q24, .ref q32, .ref q40, .int 0])), (q7, .inl (cA 0, 8, .inl (fun _ => 0))), (q15, .inl (cA 3, 60, .inr (.inr (.inr (.inr gq))))), (q24, .inl (cA 0, 60, .inl (fun _ => 0))), (q32, .inl (cA 0, 60, .inl (fun _ => 0))), (q40, .inl (cA 0, 60, .inl (fun _ => 0))), (q66, .inr (4, [.null, .null, .null, .int 0]))]) := hD
      refine W.widen (k := (6 + 4 * i)) (n := (252 + 48 * i)) (by omega) (by omega) ?_
      refine lv_dup hx hb dX2_init_69 rfl ?_
      refine pt_kcall (Y := [(a, .inr (2, [.ref q7, .int 0, .int 0, .ref h, .ref q15, .ref q24, .ref q32, .ref q40, .int 0])), (q7, .inl (cA 0, 8, .inl (fun _ => 0))), (q15, .inl (cA 3, 60, .inr (.inr (.inr (.inr gq))))), (q24, .inl (cA 0, 60, .inl (fun _ => 0))), (q32, .inl (cA 0, 60, .inl (fun _ => 0))), (q40, .inl (cA 0, 60, .inl (fun _ => 0)))]) (x := (q66, .inr (4, [.null, .null, .null, .int 0]))) (pt_krun (n := 0) (As := []) (rest := [.ref q66, .int x1, .ref q15]) F (mtX4_init l D cA _ q66) pt_kblind (fun U hU hW => ⟨by rw [hU], by rw [hU]; exact (pt_xP.mp (pt_xpick hP [6] rfl)).2, va_K.moved hW.alike F.2⟩) kw_265 (Or.inl kw_338) kw_58 kw_264 rfl ⟨by decide, by decide, by decide +kernel⟩ ⟨rfl, rfl, Nat.le_of_ble_eq_true rfl, Nat.le_of_ble_eq_true rfl⟩ rfl hl.1 rfl (Nat.le_of_ble_eq_true rfl) dX2_init_70 ⟨(Nat.le_trans (by omega) s_cb), (Nat.le_trans (by omega) s_sb)⟩) hP hD hS hA (fun u_70 H locs _ hP hD hS => ?_)
      obtain ⟨a_70, r_70, v_70⟩ := u_70
      replace hP : va_P D pt_cl (pk_Q cA fQ i ++ [(a, .inr (2, [.ref q7, .int 0, .int 0, .ref h, .ref q15, .ref q24, .ref q32, .ref q40, .int 0])), (q7, .inl (cA 0, 8, .inl (fun _ => 0))), (q15, .inl (cA 3, 60, .inr (.inr (.inr (.inr gq))))), (q24, .inl (cA 0, 60, .inl (fun _ => 0))), (q32, .inl (cA 0, 60, .inl (fun _ => 0))), (q40, .inl (cA 0, 60, .inl (fun _ => 0))), (q66, .inr (4, [.ref a_70, .ref r_70, .ref v_70, .int 0])), (a_70, .inl (cA 0, 20, .inl (fun _ => (-1)))), (r_70, .inl (cA 0, 20, .inl (fun _ => 0))), (v_70, .inl (cA 0, 4, .inl (fun _ => 0)))]) H := hP
      replace hD : va_D (pt_KA a s.heap.size) (pk_Q cA fQ i ++ [(a, .inr (2, [.ref q7, .int 0, .int 0, .ref h, .ref q15, .ref q24, .ref q32, .ref q40, .int 0])), (q7, .inl (cA 0, 8, .inl (fun _ => 0))), (q15, .inl (cA 3, 60, .inr (.inr (.inr (.inr gq))))), (q24, .inl (cA 0, 60, .inl (fun _ => 0))), (q32, .inl (cA 0, 60, .inl (fun _ => 0))), (q40, .inl (cA 0, 60, .inl (fun _ => 0))), (q66, .inr (4, [.ref a_70, .ref r_70, .ref v_70, .int 0])), (a_70, .inl (cA 0, 20, .inl (fun _ => (-1)))), (r_70, .inl (cA 0, 20, .inl (fun _ => 0))), (v_70, .inl (cA 0, 4, .inl (fun _ => 0)))]) := hD
      refine W.widen (k := (9 + 4 * i)) (n := (296 + 48 * i)) (by omega) (by omega) ?_
      refine pt_yast (Y' := fun f1 => [(a, .inr (2, [.ref q7, .int 0, .int 0, .ref h, .ref q15, .ref q24, .ref q32, .ref q40, .int 0])), (q7, .inl (cA 0, 8, .inl (fun _ => 0))), (q15, .inl (cA 3, 60, .inr (.inr (.inr (.inr f1))))), (q24, .inl (cA 0, 60, .inl (fun _ => 0))), (q32, .inl (cA 0, 60, .inl (fun _ => 0))), (q40, .inl (cA 0, 60, .inl (fun _ => 0))), (q66, .inr (4, [.ref a_70, .ref r_70, .ref v_70, .int 0])), (a_70, .inl (cA 0, 20, .inl (fun _ => (-1)))), (r_70, .inl (cA 0, 20, .inl (fun _ => 0))), (v_70, .inl (cA 0, 4, .inl (fun _ => 0)))]) F hP hD hS 3 2 6 rfl rfl rfl rfl hvin dX2_init_73 (fun _ => rfl) (fun g73 H locs eg73 hP hD hS => ?_)
      obtain ⟨y74, ey74⟩ : ∃ y : Int32, y = x1 + 1 := ⟨_, rfl⟩
      refine lv_iinc (v := y74) (lv' := [(2, .int y74), (0, .ref a), (1, .ref h)]) hx hb dX2_init_74 hl (k := 2) rfl (by rw [ey74]; rfl) (by decide) rfl (fun ls hl => ?_)
      refine lv_goto (tgt := 52) hx hb dX2_init_77 (by decide) ?_
      replace hP := pt_permP hP (pk_move (pk_Q cA fQ i) [(a, .inr (2, [.ref q7, .int 0, .int 0, .ref h, .ref q15, .ref q24, .ref q32, .ref q40, .int 0])), (q7, .inl (cA 0, 8, .inl (fun _ => 0))), (q15, .inl (cA 3, 60, .inr (.inr (.inr (.inr g73))))), (q24, .inl (cA 0, 60, .inl (fun _ => 0))), (q32, .inl (cA 0, 60, .inl (fun _ => 0))), (q40, .inl (cA 0, 60, .inl (fun _ => 0)))] (pk4 cA q66 (a_70, r_70, v_70)))
      replace hD := pt_permD hD (pk_move (pk_Q cA fQ i) [(a, .inr (2, [.ref q7, .int 0, .int 0, .ref h, .ref q15, .ref q24, .ref q32, .ref q40, .int 0])), (q7, .inl (cA 0, 8, .inl (fun _ => 0))), (q15, .inl (cA 3, 60, .inr (.inr (.inr (.inr g73))))), (q24, .inl (cA 0, 60, .inl (fun _ => 0))), (q32, .inl (cA 0, 60, .inl (fun _ => 0))), (q40, .inl (cA 0, 60, .inl (fun _ => 0)))] (pk4 cA q66 (a_70, r_70, v_70)))
      rw [← pk_Q1 cA fQ i q66 a_70 r_70 v_70] at hP hD
      refine W.widen (k := 5 + 4 * (i + 1)) (n := 248 + 48 * (i + 1)) (by omega) (by omega) ?_
      exact ih (i + 1) y74 g73 (pk_up fQ i q66 a_70 r_70 v_70) (by omega) (by omega) (by rw [ey74, ex1]; exact nI_1 i) (by rw [eg73]; exact pk_gup ex1 (by omega) hgq) _ _ _ hP hD hS (lv_sub hl [1, 2, 0] rfl)
