set_option maxHeartbeats 16000000 in
set_option maxRecDepth 100000 in
/-- THE LAW, from its entry: out of what each of its calls answers on fresh objects -/
theorem law_start {p : Program} {e : Env} {s : State} {m : MethodId} {below : List Frame} {meth : Method} {c : Code} (l : Launch) (hst : l.stackTraces = false) {b xL : Nat} {xs : Nat → Int32} (hL : xL ≤ 6) (C0 : lw_At p s m meth c b xL xs) : W p l e room_1 s m #[Value.ref b] below meth c s.heap [] 0 0 (lw_Z below #[Value.ref b] s) (entryFrame m ([Value.ref b] : List Value).toArray 9) := by
  obtain ⟨hx, hb, hr, hml, hown, hts, hX, hbl, hlocks, hgv⟩ := id C0
  have hd0 : s.drawn.sameBut s.drawn lw_cs := Drawn.sameBut.refl s.drawn lw_cs
  have hta : ∀ w ∈ lw_all, w.before #[Value.ref b] s = true := fun w h => hts w (pt_all_tbl h)
  have hgs := flat_of_before _ hgv
  have hA : ∀ q : Nat, s.heap.size ≤ q → (fun q : Nat => s.heap.size ≤ q) q := fun _ h => h
  have hAn : ∀ a : Nat, a < s.heap.size → ¬ (fun q : Nat => s.heap.size ≤ q) a := fun a h => Nat.not_le.mpr h
  obtain ⟨c0, iS0, k0⟩ := u_known (C := RX0) (T := TX0) (N := 3) (n := 3) hta inX0 (hta _ kw_110)
  obtain ⟨c1, iS1, k1⟩ := u_known (C := RX1) (T := TX1) (N := 7) (n := 7) hta inX1 (hta _ kw_92)
  obtain ⟨c2, iS2, k2⟩ := u_known (C := RX2) (T := TX2) (N := 9) (n := 9) hta inX2 (hta _ kw_331)
  obtain ⟨c3, iS3, k3⟩ := u_known (C := RX3) (T := TX3) (N := 11) (n := 11) hta inX3 (hta _ kw_256)
  obtain ⟨c4, iS4, k4⟩ := u_known (C := RX4) (T := TX4) (N := 4) (n := 4) hta inX4 (hta _ kw_262)
  obtain ⟨c5, iS5, k5⟩ := u_known (C := RX5) (T := TX5) (N := 9) (n := 9) hta inX5 (hta _ kw_104)
  obtain ⟨c6, iS6, k6⟩ := u_known (C := RX6) (T := TX6) (N := 9) (n := 9) hta inX6 (hta _ kw_175)
  obtain ⟨c7, iS7, k7⟩ := u_known (C := RX7) (T := TX7) (N := 5) (n := 5) hta inX7 (hta _ kw_84)
  obtain ⟨c8, iS8, k8⟩ := u_known (C := RX8) (T := TX8) (N := 2) (n := 2) hta inX8 (hta _ kw_953)
  obtain ⟨c9, iS9, k9⟩ := u_known (C := RX9) (T := TX9) (N := 11) (n := 11) hta inX9 (hta _ kw_996)
  obtain ⟨c10, iS10, k10⟩ := u_known (C := RX10) (T := TX10) (N := 5) (n := 5) hta inX10 (hta _ kw_1047)
  obtain ⟨c11, iS11, k11⟩ := u_known (C := RX11) (T := TX11) (N := 6) (n := 6) hta inX11 (hta _ kw_1250)
  obtain ⟨c12, iS12, k12⟩ := u_known (C := RX12) (T := TX12) (N := 5) (n := 5) hta inX12 (hta _ kw_947)
  obtain ⟨c13, iS13, k13⟩ := u_known (C := RJx4a65c) (T := TJx4a65c) (N := 3) (n := 3) hta inX13 (hta _ kw_959)
  obtain ⟨D, hKc⟩ : ∃ D : va_G, ∀ (k : Nat) (q : vw_C), pt_cl[k]? = some q → u_Kn s q.1 q.2.1 q.2.2 (D.1 k) (D.2 k) := by
    refine ⟨(fun k => if k = 0 then c0 else if k = 1 then c1 else if k = 2 then c2 else if k = 3 then c3 else if k = 4 then c4 else if k = 5 then c5 else if k = 6 then c6 else if k = 7 then c7 else if k = 8 then c8 else if k = 9 then c9 else if k = 10 then c10 else if k = 11 then c11 else if k = 12 then c12 else c13, fun k => if k = 0 then iS0 else if k = 1 then iS1 else if k = 2 then iS2 else if k = 3 then iS3 else if k = 4 then iS4 else if k = 5 then iS5 else if k = 6 then iS6 else if k = 7 then iS7 else if k = 8 then iS8 else if k = 9 then iS9 else if k = 10 then iS10 else if k = 11 then iS11 else if k = 12 then iS12 else iS13), ?_⟩
    intro k q hq
    match k, hq with
    | 0, hq => cases hq; exact k0
    | 1, hq => cases hq; exact k1
    | 2, hq => cases hq; exact k2
    | 3, hq => cases hq; exact k3
    | 4, hq => cases hq; exact k4
    | 5, hq => cases hq; exact k5
    | 6, hq => cases hq; exact k6
    | 7, hq => cases hq; exact k7
    | 8, hq => cases hq; exact k8
    | 9, hq => cases hq; exact k9
    | 10, hq => cases hq; exact k10
    | 11, hq => cases hq; exact k11
    | 12, hq => cases hq; exact k12
    | 13, hq => cases hq; exact k13
    | k + 14, hq => simp [pt_cl] at hq
  obtain ⟨a0, kA0, comp0, n0, g0, h0⟩ := Cond.arrayClass_spec (hta _ kw_128)
  obtain ⟨comp1, a1, kA1, n1, -, g1, h1, f1⟩ := Cond.arrayOver_spec (hta _ kw_98)
  obtain ⟨comp2, a2, kA2, n2, -, g2, h2, f2⟩ := Cond.arrayOver_spec (hta _ kw_100)
  obtain ⟨comp3, a3, kA3, n3, -, g3, h3, f3⟩ := Cond.arrayOver_spec (hta _ kw_337)
  obtain ⟨comp4, a4, kA4, n4, -, g4, h4, f4⟩ := Cond.arrayOver_spec (hta _ kw_1133)
  obtain ⟨a5, kA5, comp5, n5, g5, h5⟩ := Cond.arrayClass_spec (hta _ kw_1440)
  obtain ⟨a6, kA6, comp6, n6, g6, h6⟩ := Cond.arrayClass_spec (hta _ kw_1640)
  obtain ⟨cA, hc0, hc1, hc2, hc3, hc4, hc5, hc6⟩ : ∃ cA : Nat → ClassId, cA 0 = a0 ∧ cA 1 = a1 ∧ cA 2 = a2 ∧ cA 3 = a3 ∧ cA 4 = a4 ∧ cA 5 = a5 ∧ cA 6 = a6 := ⟨fun k => if k = 0 then a0 else if k = 1 then a1 else if k = 2 then a2 else if k = 3 then a3 else if k = 4 then a4 else if k = 5 then a5 else a6, rfl, rfl, rfl, rfl, rfl, rfl, rfl⟩
  have hK : va_K D pt_cl (pt_T cA) s := by
    refine ⟨hKc, fun k q hq => ?_⟩
    match k, hq with
    | 0, hq => cases hq; rw [hc0]; exact ⟨fun N z => ⟨(fun k h => by cases h), kA0, g0, comp0, h0⟩, n0⟩
    | 1, hq => cases hq; rw [hc1]; exact ⟨fun N z => ⟨(fun k h => by cases h), kA1, g1, comp1, h1⟩, kA1, comp1, g1, h1, n1, f1⟩
    | 2, hq => cases hq; rw [hc2]; exact ⟨fun N z => ⟨(fun k h => by cases h), kA2, g2, comp2, h2⟩, kA2, comp2, g2, h2, n2, f2⟩
    | 3, hq => cases hq; rw [hc3]; exact ⟨fun N z => ⟨(fun k h => by cases h), kA3, g3, comp3, h3⟩, kA3, comp3, g3, h3, n3, f3⟩
    | 4, hq => cases hq; rw [hc4]; exact ⟨fun N z => ⟨(fun k h => by cases h), kA4, g4, comp4, h4⟩, kA4, comp4, g4, h4, n4, f4⟩
    | 5, hq => cases hq; rw [hc5]; exact ⟨fun N z => ⟨(fun k h => by cases h), kA5, g5, comp5, h5⟩, n5⟩
    | 6, hq => cases hq; rw [hc6]; exact ⟨fun N z => ⟨(fun k h => by cases h), kA6, g6, comp6, h6⟩, n6⟩
    | k + 7, hq => simp [pt_T] at hq
  obtain ⟨x13, ev13, hT13⟩ := va_Tof (args := #[Value.ref b]) (s := s) (tm := (Term.static "PuppetTheatreModel" "NOTHING" "[I")) (ty := .int) (N := 3) (f := fun _ => .int 0) (A := (fun q : Nat => s.heap.size ≤ q)) (by decide) (hgs (Cond.arrayOf (Term.static "PuppetTheatreModel" "NOTHING" "[I") .int) (by decide +kernel)) (va_eqt (hgs (Cond.eq (.length (Term.static "PuppetTheatreModel" "NOTHING" "[I")) (.int 3)) (by decide +kernel))) (fun j hj => by
    match j, hj with
    | 0, _ => exact va_eqt (hgs (Cond.eq (.elem (Term.static "PuppetTheatreModel" "NOTHING" "[I") (.int 0)) (.int 0)) (by decide +kernel))
    | 1, _ => exact va_eqt (hgs (Cond.eq (.elem (Term.static "PuppetTheatreModel" "NOTHING" "[I") (.int 1)) (.int 0)) (by decide +kernel))
    | 2, _ => exact va_eqt (hgs (Cond.eq (.elem (Term.static "PuppetTheatreModel" "NOTHING" "[I") (.int 2)) (.int 0)) (by decide +kernel))
    | j + 3, hj => exact absurd hj (by omega)) hAn
  obtain ⟨x14, ev14, hT14⟩ := va_Tof (args := #[Value.ref b]) (s := s) (tm := (Term.static "java/util/ArrayList" "DEFAULTCAPACITY_EMPTY_ELEMENTDATA" "[Ljava/lang/Object;")) (ty := .object "java/lang/Object") (N := 0) (f := fun _ => .null) (A := (fun q : Nat => s.heap.size ≤ q)) (by decide) (hgs (Cond.arrayOf (Term.static "java/util/ArrayList" "DEFAULTCAPACITY_EMPTY_ELEMENTDATA" "[Ljava/lang/Object;") (.object "java/lang/Object")) (by decide +kernel)) (va_eqt (hgs (Cond.eq (.length (Term.static "java/util/ArrayList" "DEFAULTCAPACITY_EMPTY_ELEMENTDATA" "[Ljava/lang/Object;")) (.int 0)) (by decide +kernel))) (fun j hj => absurd hj (Nat.not_lt_zero j)) hAn
  have hN : rt_Zs x13 x14 (fun q : Nat => s.heap.size ≤ q) s s.heap := ⟨hT13, hT14, va_Zref (hts (Cond.laysStatic "java/util/ArrayList" "DEFAULTCAPACITY_EMPTY_ELEMENTDATA" "[Ljava/lang/Object;") (by decide +kernel)) (hta _ kw_64) ev14 hAn, va_Zref (hts (Cond.laysStatic "PuppetTheatreModel" "NOTHING" "[I") (by decide +kernel)) (hta _ kw_60) ev13 hAn⟩
  have hZ : px_Z (fun q : Nat => s.heap.size ≤ q) s s.heap := ⟨(vx_Zqof (hts (Cond.laysStatic "java/lang/Throwable" "UNASSIGNED_STACK" "[Ljava/lang/StackTraceElement;") (by decide +kernel)) (hta _ kw_71) (hgs (Cond.isRef (.static "java/lang/Throwable" "UNASSIGNED_STACK" "[Ljava/lang/StackTraceElement;")) (by decide +kernel)) hAn), (vx_Zqof (hts (Cond.laysStatic "java/lang/Throwable" "SUPPRESSED_SENTINEL" "Ljava/util/List;") (by decide +kernel)) (hta _ kw_71) (hgs (Cond.isRef (.static "java/lang/Throwable" "SUPPRESSED_SENTINEL" "Ljava/util/List;")) (by decide +kernel)) hAn)⟩
  have hNc : pw_N s := ⟨va_Nc.of (hgs (Cond.not (.castable "java/lang/IndexOutOfBoundsException" "java/lang/IllegalStateException")) (by decide +kernel)), va_Nc.of (hgs (Cond.not (.castable "java/lang/IllegalArgumentException" "java/lang/IllegalStateException")) (by decide +kernel)), va_Nc.of (hgs (Cond.not (.castable "java/lang/IllegalArgumentException" "java/lang/IndexOutOfBoundsException")) (by decide +kernel))⟩
  have F : pt_F p m c code 9 s #[Value.ref b] RL D cA := ⟨⟨hx, hb, hml, hown, hta⟩, hK⟩
  have hS : va_S (fun q : Nat => s.heap.size ≤ q) s.heap s.heap [] := va_S.rf
  have hP : va_P D pt_cl (([] : va_W) ++ []) s.heap := fun k q h => by simp at h
  have hD : va_D (fun q : Nat => s.heap.size ≤ q) (([] : va_W) ++ []) := ⟨fun i j p q h => by simp at h, fun k q h => by simp at h⟩
  have hl := lv_entry ([.ref b]) (n := 9) (Nat.le_of_ble_eq_true rfl)
  rw [lg_entry_eq]
  generalize (lg_sl ([.ref b]) ++ List.replicate (9 - (lg_sl ([.ref b])).length) Slot.unset).toArray = ls at hl ⊢
  have hl : lv_has ls 9 [(0, .ref b)] := hl
  refine pt_ynew (ci := 7) (fs := [.null, .null, .null, .null, .int 0]) F hP hD hS hA inX7 tyX7 tyX7_ok kw_83 kw_84 kw_52 rfl (fun j hj => by rcases (show j = 0 ∨ j = 1 ∨ j = 2 ∨ j = 3 ∨ j = 4 by omega) with rfl | rfl | rfl | rfl | rfl <;> rfl) (Nat.le_of_ble_eq_true rfl) (Nat.le_of_ble_eq_true rfl) dL_law_0 (fun q H hP hD hS => ?_)
  refine lv_dup hx hb dL_law_3 rfl ?_
  refine pt_kcall (Y := []) (x := (q, .inr (7, [.null, .null, .null, .null, .int 0]))) (pt_krun (n := 0) (As := []) (rest := [.ref q]) F (mtX7_init l D cA _ q) pt_kblind (fun U hU hW => ⟨by rw [hU], by rw [hU]; exact hP, va_K.moved hW.alike F.2⟩) kw_87 (Or.inl kw_85) kw_52 kw_86 rfl ⟨by decide, by decide, by decide +kernel⟩ ⟨rfl, rfl, (Nat.le_of_ble_eq_true rfl), (Nat.le_of_ble_eq_true rfl)⟩ rfl hl.1 rfl (Nat.le_of_ble_eq_true rfl) dL_law_4 ⟨(Nat.le_of_ble_eq_true rfl), (Nat.le_of_ble_eq_true rfl)⟩) hP hD hS hA (fun u H locs _ hP hD hS => ?_)
  rw [List.nil_append, List.nil_append] at hP hD
  obtain ⟨hP2, hD2⟩ := pk_toW cA q u hP hD
  clear hP hD
  have had : pk_ad q u 0 = q := rfl
  generalize pk_ad q u = ad at hP2 hD2 had
  subst had
  have hP : va_P D pt_cl (pt_W cA ad pt_M0 ++ []) H := by rw [List.append_nil]; exact hP2
  have hD : va_D (fun q : Nat => s.heap.size ≤ q) (pt_W cA ad pt_M0 ++ []) := by rw [List.append_nil]; exact hD2
  clear hP2 hD2
  refine W.widen (k := 387) (n := 4125) (by omega) (by omega) ?_
  have hI : pt_I ad := pt_xI hD
  refine W.eq (g2 := F0 m 7 ls [.ref (ad 0)]) rfl ?_
  refine lv_astore_n (lv' := [(1, .ref (ad 0)), (0, .ref b)]) hx hb dL_law_7 rfl hl (by decide) rfl (fun ls hl => ?_)
  refine pt_ynew (ci := 12) (fs := [.int 0, .null, .null, .null, .int 0]) F hP hD hS hA inX12 tyX12 tyX12_ok kw_946 kw_947 kw_60 rfl (fun j hj => by rcases (show j = 0 ∨ j = 1 ∨ j = 2 ∨ j = 3 ∨ j = 4 by omega) with rfl | rfl | rfl | rfl | rfl <;> rfl) (Nat.le_of_ble_eq_true rfl) (Nat.le_of_ble_eq_true rfl) dL_law_8 (fun a H hP hD hS => ?_)
  rw [List.nil_append] at hP hD
  refine lv_dup hx hb dL_law_11 rfl ?_
  refine pz_kcall (x := (a, .inr (12, [.int 0, .null, .null, .null, .int 0]))) (pt_krun (n := 0) (As := []) (rest := [.ref a]) F (mtMO l D cA _ x13 x14 a) sx_blind (fun U hU hW => ⟨by rw [hU], by rw [hU]; exact (pt_xP.mp hP).2, (pt_xD.mp hD).2.1.self, va_K.moved hW.alike F.2, by rw [hU]; exact rt_Zs.moved hW.alike ((hN.kept hS.2.1).narrow (fun q h => by
      rcases h with ⟨k, e, h⟩ | h
      · exact (pt_xD.mp hD).2.1.2 k (q, e) h
      · exact Nat.le_trans hS.1 h))⟩) kw_950 (Or.inl kw_948) kw_60 kw_949 rfl ⟨by decide, by decide, by decide +kernel⟩ ⟨rfl, rfl, (Nat.le_of_ble_eq_true rfl), (Nat.le_of_ble_eq_true rfl)⟩ rfl hl.1 rfl (Nat.le_of_ble_eq_true rfl) dL_law_12 ⟨(Nat.le_of_ble_eq_true rfl), (Nat.le_of_ble_eq_true rfl)⟩) hP hD hS hA (fun u H locs _ hP hD hS => ?_)
  obtain ⟨q5, q5_9, q16_9, q16, q12_21, q20_21, q27_21, q35_21, q41_21, q29, q41, q52_7_7_20_50⟩ := u
  obtain ⟨rd, hrd⟩ : ∃ rd : Nat → Nat, rd = fun k => ([a, q5, q5_9, q52_7_7_20_50, q41, q16_9, q16, q12_21, q20_21, q27_21, q35_21, q41_21, q29, x13, x14] : List Nat).getD k 0 := ⟨_, rfl⟩
  have hP2 : va_P D pt_cl (pt_W cA ad pt_M0 ++ rt_W cA rd pz_M0) H := pt_xpick hP [0, 1, 11, 12, 10, 2, 3, 4, 5, 6, 7, 8, 9] (by rw [hrd]; rfl)
  have hD2 : va_D (fun q : Nat => s.heap.size ≤ q) (pt_W cA ad pt_M0 ++ rt_W cA rd pz_M0) := pt_xpickD hD [0, 1, 11, 12, 10, 2, 3, 4, 5, 6, 7, 8, 9] rfl (by rw [hrd]; rfl)
  have hN2 : rt_Zs (rd 13) (rd 14) (fun q : Nat => s.heap.size ≤ q) s s.heap := by rw [hrd]; exact hN
  have ha : a = rd 0 := by rw [hrd]; rfl
  clear hP hD hN
  clear hrd
  subst ha
  refine W.widen (k := 400) (n := 4241) (by omega) (by omega) ?_
  refine W.eq (g2 := F0 m 15 ls [.ref (rd 0)]) rfl ?_
  have hP : va_P D pt_cl ((pt_W cA ad pt_M0 ++ rt_W cA rd pz_M0) ++ []) H := by rw [List.append_nil]; exact hP2
  have hD : va_D (fun q : Nat => s.heap.size ≤ q) ((pt_W cA ad pt_M0 ++ rt_W cA rd pz_M0) ++ []) := by rw [List.append_nil]; exact hD2
  clear hP2 hD2
  refine lv_astore_n (lv' := [(2, .ref (rd 0)), (1, .ref (ad 0)), (0, .ref b)]) hx hb dL_law_15 rfl hl (by decide) rfl (fun ls hl => ?_)
  refine lv_iconst (v := 1) hx hb dL_law_16 (by decide) ?_
  refine pz_jnew (N := 1) F hP hD hS hA kw_1640 (by decide) (by decide) (by decide) (Nat.le_of_ble_eq_true rfl) (Nat.le_of_ble_eq_true rfl) dL_law_17 (fun ao H hP hD hS => ?_)
  rw [List.nil_append] at hP hD
  refine W.widen (k := 401) (n := 4242) (by omega) (by omega) ?_
  refine lv_astore_n (lv' := [(3, .ref ao), (2, .ref (rd 0)), (1, .ref (ad 0)), (0, .ref b)]) hx hb dL_law_19 rfl hl (by decide) rfl (fun ls hl => ?_)
  obtain ⟨hPw, hO⟩ := pt_xP.mp hP
  obtain ⟨hPc, hPr⟩ := pt_xP.mp hPw
  have K : pz_K ad rd ao s.heap.size := pz_Kmk hI hD
  refine lv_iconst (v := 0) hx hb dL_law_20 (by decide) ?_
  refine lv_istore (lv' := [(4, .int 0), (3, .ref ao), (2, .ref (rd 0)), (1, .ref (ad 0)), (0, .ref b)]) hx hb dL_law_21 hl (by decide) rfl (fun ls hl => ?_)
  refine lv_iload hx hb dL_law_23 (lv_at hl 0 rfl) ?_
  refine lv_aload_n hx hb dL_law_25 rfl (lv_at hl 4 rfl) ?_
  refine va_slen hx hb hX hbl (Nat.not_le.mpr hbl) hS dL_law_26 ?_
  refine lv_bipush (v := 6) hx hb dL_law_27 (by decide) ?_
  refine lv_isub hx hb dL_law_29 ?_
  by_cases h6 : xL = 6
  · subst h6
    refine lv_icmp_gt (tgt := 1787) hx hb dL_law_30 (by decide) (fun hc => absurd hc (by decide)) (fun _ => ?_)
    have hend : ∀ (H1 : Heap) (locs1 : List Loc) (ls1 : Array Slot), va_S (fun q : Nat => s.heap.size ≤ q) s.heap H1 locs1 → lv_has ls1 9 [(4, .int 0), (0, .ref b)] → W p l e room_1 s m #[Value.ref b] below meth c H1 locs1 600002 7302232 (lw_Z below #[Value.ref b] s) (F0 m 1781 ls1 []) := by
      intro H locs ls hS hl
      refine lv_iinc (v := 0 + 6) (lv' := [(4, .int (0 + 6)), (0, .ref b)]) hx hb dL_law_1781 hl (k := 0) rfl rfl (by decide) rfl (fun ls hl => ?_)
      refine lv_goto (tgt := 23) hx hb dL_law_1784 (by decide) ?_
      refine lv_iload hx hb dL_law_23 (lv_at hl 0 rfl) ?_
      refine lv_aload_n hx hb dL_law_25 rfl (lv_at hl 1 rfl) ?_
      refine va_slen hx hb hX hbl (Nat.not_le.mpr hbl) hS dL_law_26 ?_
      refine lv_bipush (v := 6) hx hb dL_law_27 (by decide) ?_
      refine lv_isub hx hb dL_law_29 ?_
      refine lv_icmp_gt (tgt := 1787) hx hb dL_law_30 (by decide) (fun _ => ?_) (fun hc => absurd (by decide) hc)
      refine lv_iconst (v := 1) hx hb dL_law_1787 (by decide) ?_
      refine va_forget (fun q hq => hS.2.2 q hq) ?_
      refine W.widen (k := 600002) (n := 7302232) (Nat.le_of_ble_eq_true rfl) (Nat.le_of_ble_eq_true rfl) ?_
      exact lw_ret hd0 hx hb hr hlocks dL_law_1788
    refine lv_aload_n hx hb dL_law_33 rfl (lv_at hl 4 rfl) ?_
    refine lv_iload hx hb dL_law_34 (lv_at hl 0 rfl) ?_
    refine va_sld hx hb hX hbl (Nat.not_le.mpr hbl) hS (show vp_in 0 6 from by unfold vp_in; decide) dL_law_36 ?_
    refine lv_bipush (v := 63) hx hb dL_law_37 (by decide) ?_
    refine lv_iand hx hb dL_law_39 ?_
    refine lv_topi (fun x ex => ?_)
    by_cases ho : x.toInt < 0 ∨ 33 < x.toInt
    · refine lv_tableOut (tgt := 1781) hx hb dL_law_40 ho (by decide) ?_
      refine W.widen (k := 600002) (n := 7302232) (Nat.le_of_ble_eq_true rfl) (Nat.le_of_ble_eq_true rfl) ?_
      exact hend _ _ _ hS (lv_sub hl [0, 4] rfl)
    · obtain ⟨n, hn, en⟩ := pz_33 ho
      clear ho ex
      subst en
      match n, hn with
      | 0, _ =>
        refine lv_tableIn (off := 152) (tgt := 192) hx hb dL_law_40 (by decide) (by decide) rfl (by decide) ?_
        exact lp_0 l hst F hbl hX hZ hN2 hNc K hS hPc hPr hO hl hend
      | 1, _ =>
        refine lv_tableIn (off := 220) (tgt := 260) hx hb dL_law_40 (by decide) (by decide) rfl (by decide) ?_
        exact lp_1 l hst F hbl hX hZ hN2 hNc K hS hPc hPr hO hl hend
      | 2, _ =>
        refine lv_tableIn (off := 288) (tgt := 328) hx hb dL_law_40 (by decide) (by decide) rfl (by decide) ?_
        exact lp_2 l hst F hbl hX hZ hN2 hNc K hS hPc hPr hO hl hend
      | 3, _ =>
        refine lv_tableIn (off := 408) (tgt := 448) hx hb dL_law_40 (by decide) (by decide) rfl (by decide) ?_
        exact lp_3 l hst F hbl hX hZ hN2 hNc K hS hPc hPr hO hl hend
      | 4, _ =>
        refine lv_tableIn (off := 500) (tgt := 540) hx hb dL_law_40 (by decide) (by decide) rfl (by decide) ?_
        exact lp_4 l hst F hbl hX hZ hN2 hNc K hS hPc hPr hO hl hend
      | 5, _ =>
        refine lv_tableIn (off := 592) (tgt := 632) hx hb dL_law_40 (by decide) (by decide) rfl (by decide) ?_
        exact lp_5 l hst F hbl hX hZ hN2 hNc K hS hPc hPr hO hl hend
      | 6, _ =>
        refine lv_tableIn (off := 684) (tgt := 724) hx hb dL_law_40 (by decide) (by decide) rfl (by decide) ?_
        exact lp_6 l hst F hbl hX hZ hN2 hNc K hS hPc hPr hO hl hend
      | 7, _ =>
        refine lv_tableIn (off := 728) (tgt := 768) hx hb dL_law_40 (by decide) (by decide) rfl (by decide) ?_
        exact lp_7 l hst F hbl hX hZ hN2 hNc K hS hPc hPr hO hl hend
      | 8, _ =>
        refine lv_tableIn (off := 772) (tgt := 812) hx hb dL_law_40 (by decide) (by decide) rfl (by decide) ?_
        exact lp_8 l hst F hbl hX hZ hN2 hNc K hS hPc hPr hO hl hend
      | 9, _ =>
        refine lv_tableIn (off := 828) (tgt := 868) hx hb dL_law_40 (by decide) (by decide) rfl (by decide) ?_
        exact lp_9 l hst F hbl hX hZ hN2 hNc K hS hPc hPr hO hl hend
      | 10, _ =>
        refine lv_tableIn (off := 884) (tgt := 924) hx hb dL_law_40 (by decide) (by decide) rfl (by decide) ?_
        exact lp_10 l hst F hbl hX hZ hN2 hNc K hS hPc hPr hO hl hend
      | 11, _ =>
        refine lv_tableIn (off := 897) (tgt := 937) hx hb dL_law_40 (by decide) (by decide) rfl (by decide) ?_
        exact lp_11 l hst F hbl hX hZ hN2 hNc K hS hPc hPr hO hl hend
      | 12, _ =>
        refine lv_tableIn (off := 910) (tgt := 950) hx hb dL_law_40 (by decide) (by decide) rfl (by decide) ?_
        exact lp_12 l hst F hbl hX hZ hN2 hNc K hS hPc hPr hO hl hend
      | 13, _ =>
        refine lv_tableIn (off := 978) (tgt := 1018) hx hb dL_law_40 (by decide) (by decide) rfl (by decide) ?_
        exact lp_13 l hst F hbl hX hZ hN2 hNc K hS hPc hPr hO hl hend
      | 14, _ =>
        refine lv_tableIn (off := 991) (tgt := 1031) hx hb dL_law_40 (by decide) (by decide) rfl (by decide) ?_
        exact lp_14 l hst F hbl hX hZ hN2 hNc K hS hPc hPr hO hl hend
      | 15, _ =>
        refine lv_tableIn (off := 1004) (tgt := 1044) hx hb dL_law_40 (by decide) (by decide) rfl (by decide) ?_
        exact lp_15 l hst F hbl hX hZ hN2 hNc K hS hPc hPr hO hl hend
      | 16, _ =>
        refine lv_tableIn (off := 1017) (tgt := 1057) hx hb dL_law_40 (by decide) (by decide) rfl (by decide) ?_
        exact lp_16 l hst F hbl hX hZ hN2 hNc K hS hPc hPr hO hl hend
      | 17, _ =>
        refine lv_tableIn (off := 1080) (tgt := 1120) hx hb dL_law_40 (by decide) (by decide) rfl (by decide) ?_
        exact lp_17 l hst F hbl hX hZ hN2 hNc K hS hPc hPr hO hl hend
      | 18, _ =>
        refine lv_tableIn (off := 1136) (tgt := 1176) hx hb dL_law_40 (by decide) (by decide) rfl (by decide) ?_
        exact lp_18 l hst F hbl hX hZ hN2 hNc K hS hPc hPr hO hl hend
      | 19, _ =>
        refine lv_tableIn (off := 1192) (tgt := 1232) hx hb dL_law_40 (by decide) (by decide) rfl (by decide) ?_
        exact lp_19 l hst F hbl hX hZ hN2 hNc K hS hPc hPr hO hl hend
      | 20, _ =>
        refine lv_tableIn (off := 1248) (tgt := 1288) hx hb dL_law_40 (by decide) (by decide) rfl (by decide) ?_
        exact lp_20 l hst F hbl hX hZ hN2 hNc K hS hPc hPr hO hl hend
      | 21, _ =>
        refine lv_tableIn (off := 1261) (tgt := 1301) hx hb dL_law_40 (by decide) (by decide) rfl (by decide) ?_
        exact lp_21 l hst F hbl hX hZ hN2 hNc K hS hPc hPr hO hl hend
      | 22, _ =>
        refine lv_tableIn (off := 1317) (tgt := 1357) hx hb dL_law_40 (by decide) (by decide) rfl (by decide) ?_
        exact lp_22 l hst F hbl hX hZ hN2 hNc K hS hPc hPr hO hl hend
      | 23, _ =>
        refine lv_tableIn (off := 1330) (tgt := 1370) hx hb dL_law_40 (by decide) (by decide) rfl (by decide) ?_
        exact lp_23 l hst F hbl hX hZ hN2 hNc K hS hPc hPr hO hl hend
      | 24, _ =>
        refine lv_tableIn (off := 1343) (tgt := 1383) hx hb dL_law_40 (by decide) (by decide) rfl (by decide) ?_
        exact lp_24 l hst F hbl hX hZ hN2 hNc K hS hPc hPr hO hl hend
      | 25, _ =>
        refine lv_tableIn (off := 1356) (tgt := 1396) hx hb dL_law_40 (by decide) (by decide) rfl (by decide) ?_
        exact lp_25 l hst F hbl hX hZ hN2 hNc K hS hPc hPr hO hl hend
      | 26, _ =>
        refine lv_tableIn (off := 1412) (tgt := 1452) hx hb dL_law_40 (by decide) (by decide) rfl (by decide) ?_
        exact lp_26 l hst F hbl hX hZ hN2 hNc K hS hPc hPr hO hl hend
      | 27, _ =>
        refine lv_tableIn (off := 1468) (tgt := 1508) hx hb dL_law_40 (by decide) (by decide) rfl (by decide) ?_
        exact lp_27 l hst F hbl hX hZ hN2 hNc K hS hPc hPr hO hl hend
      | 28, _ =>
        refine lv_tableIn (off := 1512) (tgt := 1552) hx hb dL_law_40 (by decide) (by decide) rfl (by decide) ?_
        exact lp_28 l hst F hbl hX hZ hN2 hNc K hS hPc hPr hO hl hend
      | 29, _ =>
        refine lv_tableIn (off := 1580) (tgt := 1620) hx hb dL_law_40 (by decide) (by decide) rfl (by decide) ?_
        exact lp_29 l hst F hbl hX hZ hN2 hNc K hS hPc hPr hO hl hend
      | 30, _ =>
        refine lv_tableIn (off := 1648) (tgt := 1688) hx hb dL_law_40 (by decide) (by decide) rfl (by decide) ?_
        exact lp_30 l hst F hbl hX hZ hN2 hNc K hS hPc hPr hO hl hend
      | 31, _ =>
        refine lv_tableIn (off := 1673) (tgt := 1713) hx hb dL_law_40 (by decide) (by decide) rfl (by decide) ?_
        exact lp_31 l hst F hbl hX hZ hN2 hNc K hS hPc hPr hO hl hend
      | 32, _ =>
        refine lv_tableIn (off := 1686) (tgt := 1726) hx hb dL_law_40 (by decide) (by decide) rfl (by decide) ?_
        exact lp_32 l hst F hbl hX hZ hN2 hNc K hS hPc hPr hO hl hend
      | 33, _ =>
        refine lv_tableIn (off := 1727) (tgt := 1767) hx hb dL_law_40 (by decide) (by decide) rfl (by decide) ?_
        exact lp_33 l hst F hbl hX hZ hN2 hNc K hS hPc hPr hO hl hend
      | n + 34, hn => exact absurd hn (by omega)
  · refine lv_icmp_gt (tgt := 1787) hx hb dL_law_30 (by decide) (fun _ => ?_) (fun hc => absurd (by rcases (show xL = 0 ∨ xL = 1 ∨ xL = 2 ∨ xL = 3 ∨ xL = 4 ∨ xL = 5 by omega) with rfl | rfl | rfl | rfl | rfl | rfl <;> decide) hc)
    refine lv_iconst (v := 1) hx hb dL_law_1787 (by decide) ?_
    refine va_forget (fun q hq => hS.2.2 q hq) ?_
    refine W.widen (k := 600002) (n := 7302232) (Nat.le_of_ble_eq_true rfl) (Nat.le_of_ble_eq_true rfl) ?_
    exact lw_ret hd0 hx hb hr hlocks dL_law_1788
