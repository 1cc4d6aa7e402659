-- ===== L_doing
def wjL_doing_37 (p1 : Int32) (p2 : Int32) (Q : (Nat → Int32) → Prop)  (xs2 : Int32) (xs3 : Int32) (fs0 : Nat → Int32) (M : pt_M) : Prop :=
  vp_in xs2 3 ∧ ∀ f_37 : Nat → Int32, f_37 = upd fs0 (Int32.toNatClampNeg xs2) xs3 → ∀ r_45 : Int32, r_45 = pf_below (p1 >>> (2 &&& 31)) 7 → ∀ f_50 : Nat → Int32, f_50 = upd f_37 (Int32.toNatClampNeg 2) (r_45 - 3) → Q f_50
def wpL_doing (p1 : Int32) (p2 : Int32) (Q : (Nat → Int32) → Prop) : Prop :=
  ¬ p2 = 0 ∧ ∀ r_2 : Int32, r_2 = pf_below p1 p2 → ∀ f_12 : Nat → Int32, f_12 = upd (fun _ => 0) (Int32.toNatClampNeg 0) r_2 → (¬ r_2 = 3 → ∀ r_34 : Int32, r_34 = pf_below (p1 >>> (3 &&& 31)) 4 → wjL_doing_37 p1 p2 Q 1 r_34 f_12 (fun _ _ => 0)) ∧ (r_2 = 3 → ∀ r_24 : Int32, r_24 = pf_below (p1 >>> (3 &&& 31)) 4 → wjL_doing_37 p1 p2 Q 1 r_24 f_12 (fun _ _ => 0))
set_option maxHeartbeats 8000000 in
set_option maxRecDepth 100000 in
theorem mtL_doing (l : Launch) (D : va_G) (cA : Nat → ClassId) (sz : Nat) (p1 p2 : Int32) (Q : (Nat → Int32) → Prop) (hw : wpL_doing p1 p2 Q) : Met l yL_doing (Cond.code yL_doing cL_doing 3 (some (.array .int)) :: lw_all) ({ frames := 1, cells := 1, slots := 64, locals := 21 } : Room) (va_Pc [.int p1, .int p2] (pf_doP D cA sz)) (va_Qr Q (fun f a t => va_P D pt_cl [(a, .inl (cA 0, 3, .inl f))] t.heap ∧ sz ≤ a) (fun q : Nat => sz ≤ q)) 1 64 (fun q : Nat => sz ≤ q) := by
  refine Met.ofW (cc := cL_doing) (maxL := 3) (ret := (some (.array .int))) (by decide) rfl ?_
  intro p e s m args below meth c s₁ B hml hv
  obtain ⟨rfl, hsz, hK⟩ := hv
  have hx := B.exec
  have hb := B.bytes
  have hr := B.returns
  have hts0 := atoms_spec (ws := (Cond.code yL_doing cL_doing 3 (some (.array .int)) :: lw_all)) B.pre
  have hown : s.vm.findClass RL = some m.cls := findClass_of_methodNamed B.named
  have hlocks := B.notSynchronized
  subst hsz
  have F : pt_F p m c cL_doing 3 s _ RL D cA := ⟨⟨hx, hb, hml, hown, fun w h => hts0 w (List.mem_cons_of_mem _ h)⟩, hK⟩
  have s_cb : 1 ≤ (headSpec (Cond.code yL_doing cL_doing 3 (some (.array .int)) :: lw_all) ({ frames := 1, cells := 1, slots := 64, locals := 21 } : Room)).room.cells := Nat.le_of_ble_eq_true rfl
  have s_sb : 64 ≤ (headSpec (Cond.code yL_doing cL_doing 3 (some (.array .int)) :: lw_all) ({ frames := 1, cells := 1, slots := 64, locals := 21 } : Room)).room.slots := Nat.le_of_ble_eq_true rfl
  have hS : va_S (fun q : Nat => s.heap.size ≤ q) s.heap s.heap [] := va_S.rf
  have hA : ∀ q, s.heap.size ≤ q → s.heap.size ≤ q := fun _ h => h
  have hP : va_P D pt_cl (([] : va_W) ++ []) s.heap := fun k q h => by simp at h
  have hD : va_D (fun q : Nat => s.heap.size ≤ q) (([] : va_W) ++ []) := ⟨fun i j p q h => by simp at h, fun k q h => by simp at h⟩
  have hl := lv_entry ([.int p1, .int p2]) (n := 3) (Nat.le_of_ble_eq_true rfl)
  rw [lg_entry_eq]
  generalize (lg_sl ([.int p1, .int p2]) ++ List.replicate (3 - (lg_sl ([.int p1, .int p2])).length) Slot.unset).toArray = ls at hl ⊢
  have hl : lv_has ls 3 [(0, .int p1), (1, .int p2)] := hl
  have J37 : ∀ (xs2 : Int32) (xs3 : Int32) (as0 : Nat) (fs0 : Nat → Int32) (M : pt_M) (H : Heap) (locs : List Loc) (ls : Array Slot), wjL_doing_37 p1 p2 Q xs2 xs3 fs0 M → va_P D pt_cl (([] : va_W) ++ [(as0, .inl (cA 0, 3, .inl fs0))]) H → va_D (fun q : Nat => s.heap.size ≤ q) (([] : va_W) ++ [(as0, .inl (cA 0, 3, .inl fs0))]) → va_S (fun q : Nat => s.heap.size ≤ q) s.heap H locs → lv_has ls 3 [(0, .int p1)] → W p l e (headSpec (Cond.code yL_doing cL_doing 3 (some (.array .int)) :: lw_all) ({ frames := 1, cells := 1, slots := 64, locals := 21 } : Room)).room s m ([.int p1, .int p2] : List Value).toArray below meth c H locs 1 64 (MQ below (va_Qr Q (fun f a t => va_P D pt_cl [(a, .inl (cA 0, 3, .inl f))] t.heap ∧ s.heap.size ≤ a) (fun q : Nat => s.heap.size ≤ q)) ([.int p1, .int p2] : List Value).toArray s 1 64 (fun q : Nat => s.heap.size ≤ q)) (F0 m 37 ls [.int xs3, .int xs2, .ref as0, .ref as0]) := by
    intro xs2 xs3 as0 fs0 M H locs ls hw hP hD hS hl
    unfold wjL_doing_37 at hw
    have hv37 := hw.1
    replace hw := hw.2
    refine pt_xist (Y' := fun f1 => [(as0, .inl (cA 0, 3, .inl f1))]) F hP hD hS 0 rfl hv37 dL_doing_37 (fun _ => rfl) (fun f_37 H locs ef_37 hP hD hS => ?_)
    replace hw := hw f_37 ef_37
    refine lv_dup hx hb dL_doing_38 rfl ?_
    refine lv_iconst (v := 2) hx hb dL_doing_39 (by decide) ?_
    refine lv_iload_n hx hb dL_doing_40 rfl (lv_at hl 0 rfl) ?_
    refine lv_iconst (v := 2) hx hb dL_doing_41 (by decide) ?_
    refine lv_ishr hx hb dL_doing_42 ?_
    refine lv_bipush (v := 7) hx hb dL_doing_43 (by decide) ?_
    refine pt_callp (pt_runP (n := 2) (As := [.int (p1 >>> (2 &&& 31)), .int 7]) (rest := [.int 2, .ref as0, .ref as0]) F (mtL_below l (p1 >>> (2 &&& 31)) 7 (by decide)) (fun _ _ _ _ h => h) (fun _ _ _ => trivial) kw_751 kw_749 kw_25 kw_750 ⟨by decide, by decide, by decide +kernel⟩ ⟨rfl, rfl, Nat.le_of_ble_eq_true rfl, Nat.le_of_ble_eq_true rfl⟩ rfl hl.1 rfl (Nat.le_of_ble_eq_true rfl) dL_doing_45 ⟨(Nat.le_trans (by omega) s_cb), (Nat.le_trans (by omega) s_sb)⟩) hS (fun r_45 H locs er_45 ho hS => ?_)
    replace hP := pt_xkeep hP ho
    replace hw := hw r_45 er_45
    refine lv_iconst (v := 3) hx hb dL_doing_48 (by decide) ?_
    refine lv_isub hx hb dL_doing_49 ?_
    refine pt_xist (Y' := fun f1 => [(as0, .inl (cA 0, 3, .inl f1))]) F hP hD hS 0 rfl (pt_inL (by decide) (by decide)) dL_doing_50 (fun _ => rfl) (fun f_50 H locs ef_50 hP hD hS => ?_)
    replace hw := hw f_50 ef_50
    exact W.aret (rt := .array .int) hx hb hr (Or.inr ⟨_, rfl⟩) (Or.inr ⟨_, rfl⟩) (fun t ht hW => ⟨⟨f_50, as0, rfl, hw, by rw [ht]; exact (pt_xP.mp (pt_xpick hP [0] rfl)).2, hD.2 0 _ rfl⟩, hS.F ht⟩) hS.2.2 dL_doing_51
  unfold wpL_doing at hw
  refine lv_iload_n hx hb dL_doing_0 rfl (lv_at hl 0 rfl) ?_
  refine lv_iload_n hx hb dL_doing_1 rfl (lv_at hl 1 rfl) ?_
  have hz2 := hw.1
  replace hw := hw.2
  refine pt_callp (pt_runP (n := 2) (As := [.int p1, .int p2]) (rest := []) F (mtL_below l p1 p2 hz2) (fun _ _ _ _ h => h) (fun _ _ _ => trivial) kw_751 kw_749 kw_25 kw_750 ⟨by decide, by decide, by decide +kernel⟩ ⟨rfl, rfl, Nat.le_of_ble_eq_true rfl, Nat.le_of_ble_eq_true rfl⟩ rfl hl.1 rfl (Nat.le_of_ble_eq_true rfl) dL_doing_2 ⟨(Nat.le_trans (by omega) s_cb), (Nat.le_trans (by omega) s_sb)⟩) hS (fun r_2 H locs er_2 ho hS => ?_)
  replace hP := pt_xkeep hP ho
  replace hw := hw r_2 er_2
  refine lv_istore_n (lv' := [(2, .int r_2), (0, .int p1), (1, .int p2)]) hx hb dL_doing_5 rfl hl (by decide) rfl (fun ls hl => ?_)
  refine lv_iconst (v := 3) hx hb dL_doing_6 (by decide) ?_
  refine pt_xnew (N := 3) F hP hD hS hA kw_88 (by decide) (by decide) (by decide) (Nat.le_trans (by omega) s_cb) (Nat.le_trans (by omega) s_sb) dL_doing_7 (fun q_7 H hP hD hS => ?_)
  replace hP : va_P D pt_cl (([] : va_W) ++ [(q_7, .inl (cA 0, 3, .inl (fun _ => 0)))]) H := hP
  replace hD : va_D (fun q : Nat => s.heap.size ≤ q) (([] : va_W) ++ [(q_7, .inl (cA 0, 3, .inl (fun _ => 0)))]) := hD
  refine W.widen (k := 1) (n := 64) (by omega) (by omega) ?_
  refine lv_dup hx hb dL_doing_9 rfl ?_
  refine lv_iconst (v := 0) hx hb dL_doing_10 (by decide) ?_
  refine lv_iload_n hx hb dL_doing_11 rfl (lv_at hl 0 rfl) ?_
  refine pt_xist (Y' := fun f1 => [(q_7, .inl (cA 0, 3, .inl f1))]) F hP hD hS 0 rfl (pt_inL (by decide) (by decide)) dL_doing_12 (fun _ => rfl) (fun f_12 H locs ef_12 hP hD hS => ?_)
  replace hw := hw f_12 ef_12
  refine lv_dup hx hb dL_doing_13 rfl ?_
  refine lv_iconst (v := 1) hx hb dL_doing_14 (by decide) ?_
  refine lv_iload_n hx hb dL_doing_15 rfl (lv_at hl 0 rfl) ?_
  refine lv_iconst (v := 3) hx hb dL_doing_16 (by decide) ?_
  refine lv_icmp_ne (tgt := 30) hx hb dL_doing_17 (by decide) (fun hc17 => ?_) (fun hc17 => ?_)
  · replace hw := hw.1 hc17
    refine lv_iload_n hx hb dL_doing_30 rfl (lv_at hl 1 rfl) ?_
    refine lv_iconst (v := 3) hx hb dL_doing_31 (by decide) ?_
    refine lv_ishr hx hb dL_doing_32 ?_
    refine lv_iconst (v := 4) hx hb dL_doing_33 (by decide) ?_
    refine pt_callp (pt_runP (n := 2) (As := [.int (p1 >>> (3 &&& 31)), .int 4]) (rest := [.int 1, .ref q_7, .ref q_7]) F (mtL_below l (p1 >>> (3 &&& 31)) 4 (by decide)) (fun _ _ _ _ h => h) (fun _ _ _ => trivial) kw_751 kw_749 kw_25 kw_750 ⟨by decide, by decide, by decide +kernel⟩ ⟨rfl, rfl, Nat.le_of_ble_eq_true rfl, Nat.le_of_ble_eq_true rfl⟩ rfl hl.1 rfl (Nat.le_of_ble_eq_true rfl) dL_doing_34 ⟨(Nat.le_trans (by omega) s_cb), (Nat.le_trans (by omega) s_sb)⟩) hS (fun r_34 H locs er_34 ho hS => ?_)
    replace hP := pt_xkeep hP ho
    replace hw := hw r_34 er_34
    exact J37 1 r_34 q_7 f_12 (fun _ _ => 0) _ _ _ hw (pt_xpick hP [0] rfl) (pt_xpickD hD [0] (by decide) rfl) hS (lv_sub hl [1] rfl)
  · replace hw := hw.2 hc17
    refine lv_iload_n hx hb dL_doing_20 rfl (lv_at hl 1 rfl) ?_
    refine lv_iconst (v := 3) hx hb dL_doing_21 (by decide) ?_
    refine lv_ishr hx hb dL_doing_22 ?_
    refine lv_iconst (v := 4) hx hb dL_doing_23 (by decide) ?_
    refine pt_callp (pt_runP (n := 2) (As := [.int (p1 >>> (3 &&& 31)), .int 4]) (rest := [.int 1, .ref q_7, .ref q_7]) F (mtL_below l (p1 >>> (3 &&& 31)) 4 (by decide)) (fun _ _ _ _ h => h) (fun _ _ _ => trivial) kw_751 kw_749 kw_25 kw_750 ⟨by decide, by decide, by decide +kernel⟩ ⟨rfl, rfl, Nat.le_of_ble_eq_true rfl, Nat.le_of_ble_eq_true rfl⟩ rfl hl.1 rfl (Nat.le_of_ble_eq_true rfl) dL_doing_24 ⟨(Nat.le_trans (by omega) s_cb), (Nat.le_trans (by omega) s_sb)⟩) hS (fun r_24 H locs er_24 ho hS => ?_)
    replace hP := pt_xkeep hP ho
    replace hw := hw r_24 er_24
    refine lv_goto (tgt := 37) hx hb dL_doing_27 (by decide) ?_
    exact J37 1 r_24 q_7 f_12 (fun _ _ => 0) _ _ _ hw (pt_xpick hP [0] rfl) (pt_xpickD hD [0] (by decide) rfl) hS (lv_sub hl [1] rfl)
