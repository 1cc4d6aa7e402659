-- ===== case 9: tick
set_option maxHeartbeats 8000000 in
set_option maxRecDepth 100000 in
theorem lc_9 {p : Program} {e : Env} {s : State} {m : MethodId} {below : List Frame} {meth : Method} {c : Code} (l : Launch) (hst : l.stackTraces = false) {b : Nat} {xs : Nat → Int32} {D : va_G} {cA : Nat → ClassId} {ad rd : Nat → Nat} {ao : Nat} {g : Nat → Int64} {H : Heap} {locs : List Loc} {Q : State → Prop} {ls : Array Slot}
    (F : pt_F p m c code 9 s #[Value.ref b] RL D cA) (hbl : b < s.heap.size) (hX : va_X b 6 xs s s.heap) (hZ : px_Z (fun q : Nat => s.heap.size ≤ q) s s.heap) (hN : rt_Zs (rd 13) (rd 14) (fun q : Nat => s.heap.size ≤ q) s s.heap) (hNc : pw_N s) (K : pz_K ad rd ao s.heap.size) (hS : va_S (fun q : Nat => s.heap.size ≤ q) s.heap H locs)
    (hP : va_P D pt_cl (pt_W cA ad pt_M0) H) (hPr : va_P D pt_cl (rt_W cA rd pz_M0) H) (hO : va_P D pt_cl (pw_O cA ao g) H) (hl : lv_has ls 9 [(4, .int 0), (3, .ref ao), (2, .ref (rd 0)), (1, .ref (ad 0)), (0, .ref b)])
    (c0 v0 : Int32) (hc : wpVX7_tick (fun X : String => (X = "java/lang/IllegalStateException" ∧ c0 = 1) ∨ (X = "java/lang/IllegalArgumentException" ∧ c0 = 2)) (xs 1) pt_M0 (fun (r : Int32) (_ : pt_M) => c0 = 0 ∧ r = v0)) (hr : wpX12_tick (xs 1) pz_M0 (fun (r : Int32) (M : pt_M) => M 0 0 = c0 ∧ (c0 = 0 → r = v0)))
    (kk : ∀ (H1 : Heap) (locs1 : List Loc) (ls1 : Array Slot), va_S (fun q : Nat => s.heap.size ≤ q) s.heap H1 locs1 → lv_has ls1 9 [(4, .int 0), (0, .ref b)] → W p l e room_1 s m #[Value.ref b] below meth c H1 locs1 600002 7302232 Q (F0 m 1781 ls1 [])) : W p l e room_1 s m #[Value.ref b] below meth c H locs 401 4242 Q (F0 m 868 ls []) := by
  refine lv_aload_n F.1.1 F.1.2.1 dL_law_868 rfl (lv_at hl 3 rfl) ?_
  refine lv_aload_n F.1.1 F.1.2.1 dL_law_869 rfl (lv_at hl 4 rfl) ?_
  refine lv_iload F.1.1 F.1.2.1 dL_law_870 (lv_at hl 0 rfl) ?_
  refine lv_iconst (v := 1) F.1.1 F.1.2.1 dL_law_872 (by decide) ?_
  refine lv_iadd F.1.1 F.1.2.1 dL_law_873 ?_
  refine va_sld F.1.1 F.1.2.1 hX hbl (Nat.not_le.mpr hbl) hS (show vp_in (0 + 1) 6 from by unfold vp_in; decide) dL_law_874 ?_
  refine W.eq (g2 := F0 m 875 ls [.int (xs 1), .ref (ad 0)]) rfl ?_
  refine lv_aload_n F.1.1 F.1.2.1 dL_law_875 rfl (lv_at hl 1 rfl) ?_
  refine va_calli (pw_runS (n := 3) (As := [.ref (ad 0), .int (xs 1), .ref ao]) (rest := []) F (mtL_tick l hst D cA ad K.1 ao g _ (xs 1) pt_M0 c0 v0 hc) pw_blind (fun U hU hW => ⟨⟨by rw [hU], by rw [hU]; exact hP, va_K.moved hW.alike F.2⟩, by rw [hU]; exact px_Z.moved hW.alike ((hZ.kept hS.2.1).narrow (pz_fa K hS.1).1), by rw [hU]; exact hO, K.2.2.2.1, pw_N.moved hW.alike hNc⟩) kw_845 kw_843 kw_51 kw_844 ⟨by decide, by decide, by decide +kernel⟩ ⟨rfl, rfl, (Nat.le_of_ble_eq_true rfl), (Nat.le_of_ble_eq_true rfl)⟩ rfl hl.1 rfl (Nat.le_of_ble_eq_true rfl) dL_law_876 ⟨(Nat.le_of_ble_eq_true rfl), (Nat.le_of_ble_eq_true rfl)⟩) hS (fun q _ h => (pz_fa K hS.1).1 q h) (pz_fa K hS.1).1 (fun r5 g1 t H1 locs1 ht _ hq5 hB hz ho hS1 => ?_)
  obtain ⟨e5, e5v⟩ := hq5
  replace e5 := e5.symm
  subst e5
  rw [ht] at hB
  replace hPr := pz_r1 K hPr ho
  clear hO hP
  have hO := hB
  clear hB hS
  have hS := hS1
  clear hS1 ho hz
  refine W.widen (k := 403) (n := 4254) (Nat.le_of_ble_eq_true rfl) (Nat.le_of_ble_eq_true rfl) ?_
  refine lv_istore (lv' := [(5, .int c0), (4, .int 0), (3, .ref ao), (2, .ref (rd 0)), (1, .ref (ad 0)), (0, .ref b)]) F.1.1 F.1.2.1 dL_law_879 hl (by decide) rfl (fun ls hl => ?_)
  refine lv_aload_n F.1.1 F.1.2.1 dL_law_881 rfl (lv_at hl 3 rfl) ?_
  refine lv_aload_n F.1.1 F.1.2.1 dL_law_882 rfl (lv_at hl 5 rfl) ?_
  refine lv_iload F.1.1 F.1.2.1 dL_law_883 (lv_at hl 1 rfl) ?_
  refine lv_iconst (v := 1) F.1.1 F.1.2.1 dL_law_885 (by decide) ?_
  refine lv_iadd F.1.1 F.1.2.1 dL_law_886 ?_
  refine va_sld F.1.1 F.1.2.1 hX hbl (Nat.not_le.mpr hbl) hS (show vp_in (0 + 1) 6 from by unfold vp_in; decide) dL_law_887 ?_
  refine W.eq (g2 := F0 m 888 ls [.int (xs 1), .ref (rd 0)]) rfl ?_
  refine va_calli (rt_runVm (n := 1) (As := [.int (xs 1)]) (rest := []) F hPr hN hS (pz_fa K hS.1).2.1 (rt_c12 _ rt_k0) (rt_l12 rt_k0) rfl (mtX12_tick l D cA rd K.2.1 _ (xs 1) pz_M0 _ hr) kw_1457 kw_1454 kw_60 kw_1455 kw_1456 ⟨by decide, by decide, by decide +kernel⟩ ⟨rfl, rfl, (Nat.le_of_ble_eq_true rfl), (Nat.le_of_ble_eq_true rfl)⟩ rfl hl.1 rfl (Nat.le_of_ble_eq_true rfl) dL_law_888 ⟨(Nat.le_of_ble_eq_true rfl), (Nat.le_of_ble_eq_true rfl)⟩) hS (fun q _ h => (pz_fa K hS.1).2.1 q h) (pz_fa K hS.1).2.1 (fun r6 M1 t H1 locs1 ht _ hq hB hz ho hS1 => ?_)
  replace hO := pz_o1 K hO ho
  have hT : va_P D pt_cl [(rd 0, .inr (12, [.int (M1 0 0), .ref (rd 1), .ref (rd 6), .ref (rd 12), .int (M1 0 4)]))] H1 := by rw [← ht]; exact va_P.sub hB [0] rfl
  clear hS
  have hS := hS1
  clear hS1 ho hz hPr
  refine lv_istore (lv' := [(6, .int r6), (5, .int c0), (4, .int 0), (3, .ref ao), (2, .ref (rd 0)), (1, .ref (ad 0)), (0, .ref b)]) F.1.1 F.1.2.1 dL_law_891 hl (by decide) rfl (fun ls hl => ?_)
  refine lv_aload_n F.1.1 F.1.2.1 dL_law_893 rfl (lv_at hl 4 rfl) ?_
  refine va_calli (sx_runV (n := 0) (As := []) (rest := []) F hT 0 rfl rfl (mtTH0 l D cA (rd 0) (M1 0 0) (.ref (rd 1)) (.ref (rd 6)) (.ref (rd 12)) (.int (M1 0 4))) pz_thblind (fun U hU hW => ⟨by rw [hU]; exact hT, va_K.moved hW.alike F.2⟩) kw_1159 kw_1156 kw_60 kw_1157 kw_1158 ⟨by decide, by decide, by decide +kernel⟩ ⟨rfl, rfl, (Nat.le_of_ble_eq_true rfl), (Nat.le_of_ble_eq_true rfl)⟩ rfl hl.1 rfl (Nat.le_of_ble_eq_true rfl) dL_law_894 ⟨(Nat.le_of_ble_eq_true rfl), (Nat.le_of_ble_eq_true rfl)⟩) hS (fun _ _ h => h.elim) (fun _ h => h.elim) (fun r7 _ t H1 locs1 ht _ e7 _ hz ho hS1 => ?_)
  replace e7 := (e7.trans hq.1).symm
  subst e7
  replace hO := pz_keep hO (fun _ _ _ _ h => h) ho
  clear hS
  have hS := hS1
  clear hS1 ho hz
  refine lv_iload F.1.1 F.1.2.1 dL_law_897 (lv_at hl 1 rfl) ?_
  refine lv_icmp_eq (tgt := 904) F.1.1 F.1.2.1 dL_law_899 (by decide) (fun _ => ?_) (fun hc => absurd rfl hc)
  refine lv_iload F.1.1 F.1.2.1 dL_law_904 (lv_at hl 1 rfl) ?_
  refine lv_if_ne (tgt := 921) F.1.1 F.1.2.1 dL_law_906 (by decide) (fun hc => ?_) (fun hc => ?_)
  · refine lv_goto (tgt := 1781) F.1.1 F.1.2.1 dL_law_921 (by decide) ?_
    refine W.widen (k := 600002) (n := 7302232) (Nat.le_of_ble_eq_true rfl) (Nat.le_of_ble_eq_true rfl) ?_
    exact kk _ _ _ hS (lv_sub hl [2, 6] rfl)
  · have hc0 : c0 = 0 := hc
    refine lv_aload_n F.1.1 F.1.2.1 dL_law_909 rfl (lv_at hl 3 rfl) ?_
    refine lv_iconst (v := 0) F.1.1 F.1.2.1 dL_law_910 (by decide) ?_
    refine va_lald F.1.1 F.1.2.1 F.2 hO 0 6 rfl rfl (show vp_in 0 1 from by unfold vp_in; decide) dL_law_911 ?_
    refine W.eq (g2 := F0 m 912 ls [.long (g1 0)]) rfl ?_
    refine lv_iload F.1.1 F.1.2.1 dL_law_912 (lv_at hl 0 rfl) ?_
    refine lv_i2l (v := r6.toInt64) F.1.1 F.1.2.1 dL_law_914 rfl ?_
    refine W.lcmp F.1.1 F.1.2.1 dL_law_915 ?_
    refine lv_topi (fun r_915 er_915 => ?_)
    refine lv_if_eq (tgt := 921) F.1.1 F.1.2.1 dL_law_916 (by decide) (fun _ => ?_) (fun hc => absurd (by rw [er_915, e5v hc0, hq.2 hc0]; exact pz_cmp _) hc)
    refine lv_goto (tgt := 1781) F.1.1 F.1.2.1 dL_law_921 (by decide) ?_
    refine W.widen (k := 600002) (n := 7302232) (Nat.le_of_ble_eq_true rfl) (Nat.le_of_ble_eq_true rfl) ?_
    exact kk _ _ _ hS (lv_sub hl [2, 6] rfl)
-- ===== case 10: 924
set_option maxHeartbeats 8000000 in
set_option maxRecDepth 100000 in
theorem lc_10 {p : Program} {e : Env} {s : State} {m : MethodId} {below : List Frame} {meth : Method} {c : Code} (l : Launch) (hst : l.stackTraces = false) {b : Nat} {xs : Nat → Int32} {D : va_G} {cA : Nat → ClassId} {ad rd : Nat → Nat} {ao : Nat} {g : Nat → Int64} {H : Heap} {locs : List Loc} {Q : State → Prop} {ls : Array Slot}
    (F : pt_F p m c code 9 s #[Value.ref b] RL D cA) (hbl : b < s.heap.size) (hX : va_X b 6 xs s s.heap) (hZ : px_Z (fun q : Nat => s.heap.size ≤ q) s s.heap) (hN : rt_Zs (rd 13) (rd 14) (fun q : Nat => s.heap.size ≤ q) s s.heap) (hNc : pw_N s) (K : pz_K ad rd ao s.heap.size) (hS : va_S (fun q : Nat => s.heap.size ≤ q) s.heap H locs)
    (hP : va_P D pt_cl (pt_W cA ad pt_M0) H) (hPr : va_P D pt_cl (rt_W cA rd pz_M0) H) (hO : va_P D pt_cl (pw_O cA ao g) H) (hl : lv_has ls 9 [(4, .int 0), (3, .ref ao), (2, .ref (rd 0)), (1, .ref (ad 0)), (0, .ref b)])
    (v0 : Int32) (hc : wpX7_states pt_M0 (fun (r : Int32) (_ : pt_M) => r = v0)) (hr : wpX12_states pz_M0 (fun (r : Int32) (_ : pt_M) => r = v0))
    (kk : ∀ (H1 : Heap) (locs1 : List Loc) (ls1 : Array Slot), va_S (fun q : Nat => s.heap.size ≤ q) s.heap H1 locs1 → lv_has ls1 9 [(4, .int 0), (0, .ref b)] → W p l e room_1 s m #[Value.ref b] below meth c H1 locs1 600002 7302232 Q (F0 m 1781 ls1 [])) : W p l e room_1 s m #[Value.ref b] below meth c H locs 401 4242 Q (F0 m 924 ls []) := by
  refine lv_aload_n F.1.1 F.1.2.1 dL_law_924 rfl (lv_at hl 3 rfl) ?_
  refine va_calli (pt_runV (n := 0) (As := []) (rest := []) F hP (pt_c7 _ pt_k0) (pt_l7 pt_k0) rfl (mtX7_states l D cA ad K.1 _ pt_M0 _ hc) kw_389 kw_386 kw_52 kw_387 kw_388 ⟨by decide, by decide, by decide +kernel⟩ ⟨rfl, rfl, (Nat.le_of_ble_eq_true rfl), (Nat.le_of_ble_eq_true rfl)⟩ rfl hl.1 rfl (Nat.le_of_ble_eq_true rfl) dL_law_925 ⟨(Nat.le_of_ble_eq_true rfl), (Nat.le_of_ble_eq_true rfl)⟩) hS (fun q _ h => (pz_fa K hS.1).2.2 q h) (pz_fa K hS.1).2.2 (fun r5 M5 t H1 locs1 ht _ hq5 hB hz ho hS1 => ?_)
  replace hq5 := hq5.symm
  subst hq5
  replace hPr := pz_r2 K hPr ho
  clear hO hP hS
  have hS := hS1
  clear hS1 ho hz
  refine lv_aload_n F.1.1 F.1.2.1 dL_law_928 rfl (lv_at hl 2 rfl) ?_
  refine va_calli (rt_runVm (n := 0) (As := []) (rest := [.int v0]) F hPr hN hS (pz_fa K hS.1).2.1 (rt_c12 _ rt_k0) (rt_l12 rt_k0) rfl (mtX12_states l D cA rd K.2.1 _ pz_M0 _ hr) kw_1465 kw_1462 kw_60 kw_1463 kw_1464 ⟨by decide, by decide, by decide +kernel⟩ ⟨rfl, rfl, (Nat.le_of_ble_eq_true rfl), (Nat.le_of_ble_eq_true rfl)⟩ rfl hl.1 rfl (Nat.le_of_ble_eq_true rfl) dL_law_929 ⟨(Nat.le_of_ble_eq_true rfl), (Nat.le_of_ble_eq_true rfl)⟩) hS (fun q _ h => (pz_fa K hS.1).2.1 q h) (pz_fa K hS.1).2.1 (fun r6 M1 t H1 locs1 ht _ hq hB hz ho hS1 => ?_)
  replace hq := hq.symm
  clear hS
  have hS := hS1
  clear hS1 ho hz hPr
  refine lv_icmp_eq (tgt := 1781) F.1.1 F.1.2.1 dL_law_932 (by decide) (fun _ => ?_) (fun hc => absurd hq hc)
  refine W.widen (k := 600002) (n := 7302232) (Nat.le_of_ble_eq_true rfl) (Nat.le_of_ble_eq_true rfl) ?_
  exact kk _ _ _ hS (lv_sub hl [0, 4] rfl)
-- ===== case 11: 937
set_option maxHeartbeats 8000000 in
set_option maxRecDepth 100000 in
theorem lc_11 {p : Program} {e : Env} {s : State} {m : MethodId} {below : List Frame} {meth : Method} {c : Code} (l : Launch) (hst : l.stackTraces = false) {b : Nat} {xs : Nat → Int32} {D : va_G} {cA : Nat → ClassId} {ad rd : Nat → Nat} {ao : Nat} {g : Nat → Int64} {H : Heap} {locs : List Loc} {Q : State → Prop} {ls : Array Slot}
    (F : pt_F p m c code 9 s #[Value.ref b] RL D cA) (hbl : b < s.heap.size) (hX : va_X b 6 xs s s.heap) (hZ : px_Z (fun q : Nat => s.heap.size ≤ q) s s.heap) (hN : rt_Zs (rd 13) (rd 14) (fun q : Nat => s.heap.size ≤ q) s s.heap) (hNc : pw_N s) (K : pz_K ad rd ao s.heap.size) (hS : va_S (fun q : Nat => s.heap.size ≤ q) s.heap H locs)
    (hP : va_P D pt_cl (pt_W cA ad pt_M0) H) (hPr : va_P D pt_cl (rt_W cA rd pz_M0) H) (hO : va_P D pt_cl (pw_O cA ao g) H) (hl : lv_has ls 9 [(4, .int 0), (3, .ref ao), (2, .ref (rd 0)), (1, .ref (ad 0)), (0, .ref b)])
    (v0 : Int32) (hc : wpX7_transitions pt_M0 (fun (r : Int32) (_ : pt_M) => r = v0)) (hr : wpX12_transitions pz_M0 (fun (r : Int32) (_ : pt_M) => r = v0))
    (kk : ∀ (H1 : Heap) (locs1 : List Loc) (ls1 : Array Slot), va_S (fun q : Nat => s.heap.size ≤ q) s.heap H1 locs1 → lv_has ls1 9 [(4, .int 0), (0, .ref b)] → W p l e room_1 s m #[Value.ref b] below meth c H1 locs1 600002 7302232 Q (F0 m 1781 ls1 [])) : W p l e room_1 s m #[Value.ref b] below meth c H locs 401 4242 Q (F0 m 937 ls []) := by
  refine lv_aload_n F.1.1 F.1.2.1 dL_law_937 rfl (lv_at hl 3 rfl) ?_
  refine va_calli (pt_runV (n := 0) (As := []) (rest := []) F hP (pt_c7 _ pt_k0) (pt_l7 pt_k0) rfl (mtX7_transitions l D cA ad K.1 _ pt_M0 _ hc) kw_393 kw_390 kw_52 kw_391 kw_392 ⟨by decide, by decide, by decide +kernel⟩ ⟨rfl, rfl, (Nat.le_of_ble_eq_true rfl), (Nat.le_of_ble_eq_true rfl)⟩ rfl hl.1 rfl (Nat.le_of_ble_eq_true rfl) dL_law_938 ⟨(Nat.le_of_ble_eq_true rfl), (Nat.le_of_ble_eq_true rfl)⟩) hS (fun q _ h => (pz_fa K hS.1).2.2 q h) (pz_fa K hS.1).2.2 (fun r5 M5 t H1 locs1 ht _ hq5 hB hz ho hS1 => ?_)
  replace hq5 := hq5.symm
  subst hq5
  replace hPr := pz_r2 K hPr ho
  clear hO hP hS
  have hS := hS1
  clear hS1 ho hz
  refine lv_aload_n F.1.1 F.1.2.1 dL_law_941 rfl (lv_at hl 2 rfl) ?_
  refine va_calli (rt_runVm (n := 0) (As := []) (rest := [.int v0]) F hPr hN hS (pz_fa K hS.1).2.1 (rt_c12 _ rt_k0) (rt_l12 rt_k0) rfl (mtX12_transitions l D cA rd K.2.1 _ pz_M0 _ hr) kw_1473 kw_1470 kw_60 kw_1471 kw_1472 ⟨by decide, by decide, by decide +kernel⟩ ⟨rfl, rfl, (Nat.le_of_ble_eq_true rfl), (Nat.le_of_ble_eq_true rfl)⟩ rfl hl.1 rfl (Nat.le_of_ble_eq_true rfl) dL_law_942 ⟨(Nat.le_of_ble_eq_true rfl), (Nat.le_of_ble_eq_true rfl)⟩) hS (fun q _ h => (pz_fa K hS.1).2.1 q h) (pz_fa K hS.1).2.1 (fun r6 M1 t H1 locs1 ht _ hq hB hz ho hS1 => ?_)
  replace hq := hq.symm
  clear hS
  have hS := hS1
  clear hS1 ho hz hPr
  refine lv_icmp_eq (tgt := 1781) F.1.1 F.1.2.1 dL_law_945 (by decide) (fun _ => ?_) (fun hc => absurd hq hc)
  refine W.widen (k := 600002) (n := 7302232) (Nat.le_of_ble_eq_true rfl) (Nat.le_of_ble_eq_true rfl) ?_
  exact kk _ _ _ hS (lv_sub hl [0, 4] rfl)
-- ===== case 12: ofState
set_option maxHeartbeats 8000000 in
set_option maxRecDepth 100000 in
theorem lc_12 {p : Program} {e : Env} {s : State} {m : MethodId} {below : List Frame} {meth : Method} {c : Code} (l : Launch) (hst : l.stackTraces = false) {b : Nat} {xs : Nat → Int32} {D : va_G} {cA : Nat → ClassId} {ad rd : Nat → Nat} {ao : Nat} {g : Nat → Int64} {H : Heap} {locs : List Loc} {Q : State → Prop} {ls : Array Slot}
    (F : pt_F p m c code 9 s #[Value.ref b] RL D cA) (hbl : b < s.heap.size) (hX : va_X b 6 xs s s.heap) (hZ : px_Z (fun q : Nat => s.heap.size ≤ q) s s.heap) (hN : rt_Zs (rd 13) (rd 14) (fun q : Nat => s.heap.size ≤ q) s s.heap) (hNc : pw_N s) (K : pz_K ad rd ao s.heap.size) (hS : va_S (fun q : Nat => s.heap.size ≤ q) s.heap H locs)
    (hP : va_P D pt_cl (pt_W cA ad pt_M0) H) (hPr : va_P D pt_cl (rt_W cA rd pz_M0) H) (hO : va_P D pt_cl (pw_O cA ao g) H) (hl : lv_has ls 9 [(4, .int 0), (3, .ref ao), (2, .ref (rd 0)), (1, .ref (ad 0)), (0, .ref b)])
    (c0 v0 : Int32) (hc : wpVX7_ofState (fun X : String => (X = "java/lang/IndexOutOfBoundsException" ∧ c0 = 1) ∨ (X = "java/lang/IllegalArgumentException" ∧ c0 = 2)) (xs 1) (xs 2) pt_M0 (fun (r : Int32) (_ : pt_M) => c0 = 0 ∧ r = v0)) (hr : wpX12_ofState (xs 1) (xs 2) pz_M0 (fun (r : Int32) (M : pt_M) => M 0 0 = c0 ∧ (c0 = 0 → r = v0)))
    (kk : ∀ (H1 : Heap) (locs1 : List Loc) (ls1 : Array Slot), va_S (fun q : Nat => s.heap.size ≤ q) s.heap H1 locs1 → lv_has ls1 9 [(4, .int 0), (0, .ref b)] → W p l e room_1 s m #[Value.ref b] below meth c H1 locs1 600002 7302232 Q (F0 m 1781 ls1 [])) : W p l e room_1 s m #[Value.ref b] below meth c H locs 401 4242 Q (F0 m 950 ls []) := by
  refine lv_aload_n F.1.1 F.1.2.1 dL_law_950 rfl (lv_at hl 3 rfl) ?_
  refine lv_aload_n F.1.1 F.1.2.1 dL_law_951 rfl (lv_at hl 4 rfl) ?_
  refine lv_iload F.1.1 F.1.2.1 dL_law_952 (lv_at hl 0 rfl) ?_
  refine lv_iconst (v := 1) F.1.1 F.1.2.1 dL_law_954 (by decide) ?_
  refine lv_iadd F.1.1 F.1.2.1 dL_law_955 ?_
  refine va_sld F.1.1 F.1.2.1 hX hbl (Nat.not_le.mpr hbl) hS (show vp_in (0 + 1) 6 from by unfold vp_in; decide) dL_law_956 ?_
  refine W.eq (g2 := F0 m 957 ls [.int (xs 1), .ref (ad 0)]) rfl ?_
  refine lv_aload_n F.1.1 F.1.2.1 dL_law_957 rfl (lv_at hl 4 rfl) ?_
  refine lv_iload F.1.1 F.1.2.1 dL_law_958 (lv_at hl 0 rfl) ?_
  refine lv_iconst (v := 2) F.1.1 F.1.2.1 dL_law_960 (by decide) ?_
  refine lv_iadd F.1.1 F.1.2.1 dL_law_961 ?_
  refine va_sld F.1.1 F.1.2.1 hX hbl (Nat.not_le.mpr hbl) hS (show vp_in (0 + 2) 6 from by unfold vp_in; decide) dL_law_962 ?_
  refine W.eq (g2 := F0 m 963 ls [.int (xs 2), .int (xs 1), .ref (ad 0)]) rfl ?_
  refine lv_aload_n F.1.1 F.1.2.1 dL_law_963 rfl (lv_at hl 1 rfl) ?_
  refine va_calli (pw_runS (n := 4) (As := [.ref (ad 0), .int (xs 1), .int (xs 2), .ref ao]) (rest := []) F (mtL_ofState l hst D cA ad K.1 ao g _ (xs 1) (xs 2) pt_M0 c0 v0 hc) pw_blind (fun U hU hW => ⟨⟨by rw [hU], by rw [hU]; exact hP, va_K.moved hW.alike F.2⟩, by rw [hU]; exact px_Z.moved hW.alike ((hZ.kept hS.2.1).narrow (pz_fa K hS.1).1), by rw [hU]; exact hO, K.2.2.2.1, pw_N.moved hW.alike hNc⟩) kw_852 kw_850 kw_51 kw_851 ⟨by decide, by decide, by decide +kernel⟩ ⟨rfl, rfl, (Nat.le_of_ble_eq_true rfl), (Nat.le_of_ble_eq_true rfl)⟩ rfl hl.1 rfl (Nat.le_of_ble_eq_true rfl) dL_law_964 ⟨(Nat.le_of_ble_eq_true rfl), (Nat.le_of_ble_eq_true rfl)⟩) hS (fun q _ h => (pz_fa K hS.1).1 q h) (pz_fa K hS.1).1 (fun r5 g1 t H1 locs1 ht _ hq5 hB hz ho hS1 => ?_)
  obtain ⟨e5, e5v⟩ := hq5
  replace e5 := e5.symm
  subst e5
  rw [ht] at hB
  replace hPr := pz_r1 K hPr ho
  clear hO hP
  have hO := hB
  clear hB hS
  have hS := hS1
  clear hS1 ho hz
  refine W.widen (k := 403) (n := 4254) (Nat.le_of_ble_eq_true rfl) (Nat.le_of_ble_eq_true rfl) ?_
  refine lv_istore (lv' := [(5, .int c0), (4, .int 0), (3, .ref ao), (2, .ref (rd 0)), (1, .ref (ad 0)), (0, .ref b)]) F.1.1 F.1.2.1 dL_law_967 hl (by decide) rfl (fun ls hl => ?_)
  refine lv_aload_n F.1.1 F.1.2.1 dL_law_969 rfl (lv_at hl 3 rfl) ?_
  refine lv_aload_n F.1.1 F.1.2.1 dL_law_970 rfl (lv_at hl 5 rfl) ?_
  refine lv_iload F.1.1 F.1.2.1 dL_law_971 (lv_at hl 1 rfl) ?_
  refine lv_iconst (v := 1) F.1.1 F.1.2.1 dL_law_973 (by decide) ?_
  refine lv_iadd F.1.1 F.1.2.1 dL_law_974 ?_
  refine va_sld F.1.1 F.1.2.1 hX hbl (Nat.not_le.mpr hbl) hS (show vp_in (0 + 1) 6 from by unfold vp_in; decide) dL_law_975 ?_
  refine W.eq (g2 := F0 m 976 ls [.int (xs 1), .ref (rd 0)]) rfl ?_
  refine lv_aload_n F.1.1 F.1.2.1 dL_law_976 rfl (lv_at hl 5 rfl) ?_
  refine lv_iload F.1.1 F.1.2.1 dL_law_977 (lv_at hl 1 rfl) ?_
  refine lv_iconst (v := 2) F.1.1 F.1.2.1 dL_law_979 (by decide) ?_
  refine lv_iadd F.1.1 F.1.2.1 dL_law_980 ?_
  refine va_sld F.1.1 F.1.2.1 hX hbl (Nat.not_le.mpr hbl) hS (show vp_in (0 + 2) 6 from by unfold vp_in; decide) dL_law_981 ?_
  refine W.eq (g2 := F0 m 982 ls [.int (xs 2), .int (xs 1), .ref (rd 0)]) rfl ?_
  refine va_calli (rt_runVm (n := 2) (As := [.int (xs 1), .int (xs 2)]) (rest := []) F hPr hN hS (pz_fa K hS.1).2.1 (rt_c12 _ rt_k0) (rt_l12 rt_k0) rfl (mtX12_ofState l D cA rd K.2.1 _ (xs 1) (xs 2) pz_M0 _ hr) kw_1477 kw_1474 kw_60 kw_1475 kw_1476 ⟨by decide, by decide, by decide +kernel⟩ ⟨rfl, rfl, (Nat.le_of_ble_eq_true rfl), (Nat.le_of_ble_eq_true rfl)⟩ rfl hl.1 rfl (Nat.le_of_ble_eq_true rfl) dL_law_982 ⟨(Nat.le_of_ble_eq_true rfl), (Nat.le_of_ble_eq_true rfl)⟩) hS (fun q _ h => (pz_fa K hS.1).2.1 q h) (pz_fa K hS.1).2.1 (fun r6 M1 t H1 locs1 ht _ hq hB hz ho hS1 => ?_)
  replace hO := pz_o1 K hO ho
  have hT : va_P D pt_cl [(rd 0, .inr (12, [.int (M1 0 0), .ref (rd 1), .ref (rd 6), .ref (rd 12), .int (M1 0 4)]))] H1 := by rw [← ht]; exact va_P.sub hB [0] rfl
  clear hS
  have hS := hS1
  clear hS1 ho hz hPr
  refine lv_istore (lv' := [(6, .int r6), (5, .int c0), (4, .int 0), (3, .ref ao), (2, .ref (rd 0)), (1, .ref (ad 0)), (0, .ref b)]) F.1.1 F.1.2.1 dL_law_985 hl (by decide) rfl (fun ls hl => ?_)
  refine lv_aload_n F.1.1 F.1.2.1 dL_law_987 rfl (lv_at hl 4 rfl) ?_
  refine va_calli (sx_runV (n := 0) (As := []) (rest := []) F hT 0 rfl rfl (mtTH0 l D cA (rd 0) (M1 0 0) (.ref (rd 1)) (.ref (rd 6)) (.ref (rd 12)) (.int (M1 0 4))) pz_thblind (fun U hU hW => ⟨by rw [hU]; exact hT, va_K.moved hW.alike F.2⟩) kw_1159 kw_1156 kw_60 kw_1157 kw_1158 ⟨by decide, by decide, by decide +kernel⟩ ⟨rfl, rfl, (Nat.le_of_ble_eq_true rfl), (Nat.le_of_ble_eq_true rfl)⟩ rfl hl.1 rfl (Nat.le_of_ble_eq_true rfl) dL_law_988 ⟨(Nat.le_of_ble_eq_true rfl), (Nat.le_of_ble_eq_true rfl)⟩) hS (fun _ _ h => h.elim) (fun _ h => h.elim) (fun r7 _ t H1 locs1 ht _ e7 _ hz ho hS1 => ?_)
  replace e7 := (e7.trans hq.1).symm
  subst e7
  replace hO := pz_keep hO (fun _ _ _ _ h => h) ho
  clear hS
  have hS := hS1
  clear hS1 ho hz
  refine lv_iload F.1.1 F.1.2.1 dL_law_991 (lv_at hl 1 rfl) ?_
  refine lv_icmp_eq (tgt := 998) F.1.1 F.1.2.1 dL_law_993 (by decide) (fun _ => ?_) (fun hc => absurd rfl hc)
  refine lv_iload F.1.1 F.1.2.1 dL_law_998 (lv_at hl 1 rfl) ?_
  refine lv_if_ne (tgt := 1015) F.1.1 F.1.2.1 dL_law_1000 (by decide) (fun hc => ?_) (fun hc => ?_)
  · refine lv_goto (tgt := 1781) F.1.1 F.1.2.1 dL_law_1015 (by decide) ?_
    refine W.widen (k := 600002) (n := 7302232) (Nat.le_of_ble_eq_true rfl) (Nat.le_of_ble_eq_true rfl) ?_
    exact kk _ _ _ hS (lv_sub hl [2, 6] rfl)
  · have hc0 : c0 = 0 := hc
    refine lv_aload_n F.1.1 F.1.2.1 dL_law_1003 rfl (lv_at hl 3 rfl) ?_
    refine lv_iconst (v := 0) F.1.1 F.1.2.1 dL_law_1004 (by decide) ?_
    refine va_lald F.1.1 F.1.2.1 F.2 hO 0 6 rfl rfl (show vp_in 0 1 from by unfold vp_in; decide) dL_law_1005 ?_
    refine W.eq (g2 := F0 m 1006 ls [.long (g1 0)]) rfl ?_
    refine lv_iload F.1.1 F.1.2.1 dL_law_1006 (lv_at hl 0 rfl) ?_
    refine lv_i2l (v := r6.toInt64) F.1.1 F.1.2.1 dL_law_1008 rfl ?_
    refine W.lcmp F.1.1 F.1.2.1 dL_law_1009 ?_
    refine lv_topi (fun r_1009 er_1009 => ?_)
    refine lv_if_eq (tgt := 1015) F.1.1 F.1.2.1 dL_law_1010 (by decide) (fun _ => ?_) (fun hc => absurd (by rw [er_1009, e5v hc0, hq.2 hc0]; exact pz_cmp _) hc)
    refine lv_goto (tgt := 1781) F.1.1 F.1.2.1 dL_law_1015 (by decide) ?_
    refine W.widen (k := 600002) (n := 7302232) (Nat.le_of_ble_eq_true rfl) (Nat.le_of_ble_eq_true rfl) ?_
    exact kk _ _ _ hS (lv_sub hl [2, 6] rfl)
-- ===== case 13: 1018
set_option maxHeartbeats 8000000 in
set_option maxRecDepth 100000 in
theorem lc_13 {p : Program} {e : Env} {s : State} {m : MethodId} {below : List Frame} {meth : Method} {c : Code} (l : Launch) (hst : l.stackTraces = false) {b : Nat} {xs : Nat → Int32} {D : va_G} {cA : Nat → ClassId} {ad rd : Nat → Nat} {ao : Nat} {g : Nat → Int64} {H : Heap} {locs : List Loc} {Q : State → Prop} {ls : Array Slot}
    (F : pt_F p m c code 9 s #[Value.ref b] RL D cA) (hbl : b < s.heap.size) (hX : va_X b 6 xs s s.heap) (hZ : px_Z (fun q : Nat => s.heap.size ≤ q) s s.heap) (hN : rt_Zs (rd 13) (rd 14) (fun q : Nat => s.heap.size ≤ q) s s.heap) (hNc : pw_N s) (K : pz_K ad rd ao s.heap.size) (hS : va_S (fun q : Nat => s.heap.size ≤ q) s.heap H locs)
    (hP : va_P D pt_cl (pt_W cA ad pt_M0) H) (hPr : va_P D pt_cl (rt_W cA rd pz_M0) H) (hO : va_P D pt_cl (pw_O cA ao g) H) (hl : lv_has ls 9 [(4, .int 0), (3, .ref ao), (2, .ref (rd 0)), (1, .ref (ad 0)), (0, .ref b)])
    (v0 : Int32) (hc : wpX7_isRunning pt_M0 (fun (r : Int32) (_ : pt_M) => r = v0)) (hr : wpX12_isRunning pz_M0 (fun (r : Int32) (_ : pt_M) => r = v0))
    (kk : ∀ (H1 : Heap) (locs1 : List Loc) (ls1 : Array Slot), va_S (fun q : Nat => s.heap.size ≤ q) s.heap H1 locs1 → lv_has ls1 9 [(4, .int 0), (0, .ref b)] → W p l e room_1 s m #[Value.ref b] below meth c H1 locs1 600002 7302232 Q (F0 m 1781 ls1 [])) : W p l e room_1 s m #[Value.ref b] below meth c H locs 401 4242 Q (F0 m 1018 ls []) := by
  refine lv_aload_n F.1.1 F.1.2.1 dL_law_1018 rfl (lv_at hl 3 rfl) ?_
  refine va_calli (pt_runV (n := 0) (As := []) (rest := []) F hP (pt_c7 _ pt_k0) (pt_l7 pt_k0) rfl (mtX7_isRunning l D cA ad K.1 _ pt_M0 _ hc) kw_397 kw_394 kw_52 kw_395 kw_396 ⟨by decide, by decide, by decide +kernel⟩ ⟨rfl, rfl, (Nat.le_of_ble_eq_true rfl), (Nat.le_of_ble_eq_true rfl)⟩ rfl hl.1 rfl (Nat.le_of_ble_eq_true rfl) dL_law_1019 ⟨(Nat.le_of_ble_eq_true rfl), (Nat.le_of_ble_eq_true rfl)⟩) hS (fun q _ h => (pz_fa K hS.1).2.2 q h) (pz_fa K hS.1).2.2 (fun r5 M5 t H1 locs1 ht _ hq5 hB hz ho hS1 => ?_)
  replace hq5 := hq5.symm
  subst hq5
  replace hPr := pz_r2 K hPr ho
  clear hO hP hS
  have hS := hS1
  clear hS1 ho hz
  refine lv_aload_n F.1.1 F.1.2.1 dL_law_1022 rfl (lv_at hl 2 rfl) ?_
  refine va_calli (rt_runVm (n := 0) (As := []) (rest := [.int v0]) F hPr hN hS (pz_fa K hS.1).2.1 (rt_c12 _ rt_k0) (rt_l12 rt_k0) rfl (mtX12_isRunning l D cA rd K.2.1 _ pz_M0 _ hr) kw_1486 kw_1483 kw_60 kw_1484 kw_1485 ⟨by decide, by decide, by decide +kernel⟩ ⟨rfl, rfl, (Nat.le_of_ble_eq_true rfl), (Nat.le_of_ble_eq_true rfl)⟩ rfl hl.1 rfl (Nat.le_of_ble_eq_true rfl) dL_law_1023 ⟨(Nat.le_of_ble_eq_true rfl), (Nat.le_of_ble_eq_true rfl)⟩) hS (fun q _ h => (pz_fa K hS.1).2.1 q h) (pz_fa K hS.1).2.1 (fun r6 M1 t H1 locs1 ht _ hq hB hz ho hS1 => ?_)
  replace hq := hq.symm
  clear hS
  have hS := hS1
  clear hS1 ho hz hPr
  refine lv_icmp_eq (tgt := 1781) F.1.1 F.1.2.1 dL_law_1026 (by decide) (fun _ => ?_) (fun hc => absurd hq hc)
  refine W.widen (k := 600002) (n := 7302232) (Nat.le_of_ble_eq_true rfl) (Nat.le_of_ble_eq_true rfl) ?_
  exact kk _ _ _ hS (lv_sub hl [0, 4] rfl)
-- ===== case 14: 1031
set_option maxHeartbeats 8000000 in
set_option maxRecDepth 100000 in
theorem lc_14 {p : Program} {e : Env} {s : State} {m : MethodId} {below : List Frame} {meth : Method} {c : Code} (l : Launch) (hst : l.stackTraces = false) {b : Nat} {xs : Nat → Int32} {D : va_G} {cA : Nat → ClassId} {ad rd : Nat → Nat} {ao : Nat} {g : Nat → Int64} {H : Heap} {locs : List Loc} {Q : State → Prop} {ls : Array Slot}
    (F : pt_F p m c code 9 s #[Value.ref b] RL D cA) (hbl : b < s.heap.size) (hX : va_X b 6 xs s s.heap) (hZ : px_Z (fun q : Nat => s.heap.size ≤ q) s s.heap) (hN : rt_Zs (rd 13) (rd 14) (fun q : Nat => s.heap.size ≤ q) s s.heap) (hNc : pw_N s) (K : pz_K ad rd ao s.heap.size) (hS : va_S (fun q : Nat => s.heap.size ≤ q) s.heap H locs)
    (hP : va_P D pt_cl (pt_W cA ad pt_M0) H) (hPr : va_P D pt_cl (rt_W cA rd pz_M0) H) (hO : va_P D pt_cl (pw_O cA ao g) H) (hl : lv_has ls 9 [(4, .int 0), (3, .ref ao), (2, .ref (rd 0)), (1, .ref (ad 0)), (0, .ref b)])
    (v0 : Int32) (hc : wpX7_active pt_M0 (fun (r : Int32) (_ : pt_M) => r = v0)) (hr : wpX12_active pz_M0 (fun (r : Int32) (_ : pt_M) => r = v0))
    (kk : ∀ (H1 : Heap) (locs1 : List Loc) (ls1 : Array Slot), va_S (fun q : Nat => s.heap.size ≤ q) s.heap H1 locs1 → lv_has ls1 9 [(4, .int 0), (0, .ref b)] → W p l e room_1 s m #[Value.ref b] below meth c H1 locs1 600002 7302232 Q (F0 m 1781 ls1 [])) : W p l e room_1 s m #[Value.ref b] below meth c H locs 401 4242 Q (F0 m 1031 ls []) := by
  refine lv_aload_n F.1.1 F.1.2.1 dL_law_1031 rfl (lv_at hl 3 rfl) ?_
  refine va_calli (pt_runV (n := 0) (As := []) (rest := []) F hP (pt_c7 _ pt_k0) (pt_l7 pt_k0) rfl (mtX7_active l D cA ad K.1 _ pt_M0 _ hc) kw_401 kw_398 kw_52 kw_399 kw_400 ⟨by decide, by decide, by decide +kernel⟩ ⟨rfl, rfl, (Nat.le_of_ble_eq_true rfl), (Nat.le_of_ble_eq_true rfl)⟩ rfl hl.1 rfl (Nat.le_of_ble_eq_true rfl) dL_law_1032 ⟨(Nat.le_of_ble_eq_true rfl), (Nat.le_of_ble_eq_true rfl)⟩) hS (fun q _ h => (pz_fa K hS.1).2.2 q h) (pz_fa K hS.1).2.2 (fun r5 M5 t H1 locs1 ht _ hq5 hB hz ho hS1 => ?_)
  replace hq5 := hq5.symm
  subst hq5
  replace hPr := pz_r2 K hPr ho
  clear hO hP hS
  have hS := hS1
  clear hS1 ho hz
  refine lv_aload_n F.1.1 F.1.2.1 dL_law_1035 rfl (lv_at hl 2 rfl) ?_
  refine va_calli (rt_runVm (n := 0) (As := []) (rest := [.int v0]) F hPr hN hS (pz_fa K hS.1).2.1 (rt_c12 _ rt_k0) (rt_l12 rt_k0) rfl (mtX12_active l D cA rd K.2.1 _ pz_M0 _ hr) kw_1490 kw_1487 kw_60 kw_1488 kw_1489 ⟨by decide, by decide, by decide +kernel⟩ ⟨rfl, rfl, (Nat.le_of_ble_eq_true rfl), (Nat.le_of_ble_eq_true rfl)⟩ rfl hl.1 rfl (Nat.le_of_ble_eq_true rfl) dL_law_1036 ⟨(Nat.le_of_ble_eq_true rfl), (Nat.le_of_ble_eq_true rfl)⟩) hS (fun q _ h => (pz_fa K hS.1).2.1 q h) (pz_fa K hS.1).2.1 (fun r6 M1 t H1 locs1 ht _ hq hB hz ho hS1 => ?_)
  replace hq := hq.symm
  clear hS
  have hS := hS1
  clear hS1 ho hz hPr
  refine lv_icmp_eq (tgt := 1781) F.1.1 F.1.2.1 dL_law_1039 (by decide) (fun _ => ?_) (fun hc => absurd hq hc)
  refine W.widen (k := 600002) (n := 7302232) (Nat.le_of_ble_eq_true rfl) (Nat.le_of_ble_eq_true rfl) ?_
  exact kk _ _ _ hS (lv_sub hl [0, 4] rfl)
-- ===== case 15: 1044
set_option maxHeartbeats 8000000 in
set_option maxRecDepth 100000 in
theorem lc_15 {p : Program} {e : Env} {s : State} {m : MethodId} {below : List Frame} {meth : Method} {c : Code} (l : Launch) (hst : l.stackTraces = false) {b : Nat} {xs : Nat → Int32} {D : va_G} {cA : Nat → ClassId} {ad rd : Nat → Nat} {ao : Nat} {g : Nat → Int64} {H : Heap} {locs : List Loc} {Q : State → Prop} {ls : Array Slot}
    (F : pt_F p m c code 9 s #[Value.ref b] RL D cA) (hbl : b < s.heap.size) (hX : va_X b 6 xs s s.heap) (hZ : px_Z (fun q : Nat => s.heap.size ≤ q) s s.heap) (hN : rt_Zs (rd 13) (rd 14) (fun q : Nat => s.heap.size ≤ q) s s.heap) (hNc : pw_N s) (K : pz_K ad rd ao s.heap.size) (hS : va_S (fun q : Nat => s.heap.size ≤ q) s.heap H locs)
    (hP : va_P D pt_cl (pt_W cA ad pt_M0) H) (hPr : va_P D pt_cl (rt_W cA rd pz_M0) H) (hO : va_P D pt_cl (pw_O cA ao g) H) (hl : lv_has ls 9 [(4, .int 0), (3, .ref ao), (2, .ref (rd 0)), (1, .ref (ad 0)), (0, .ref b)])
    (v0 : Int32) (hc : wpX7_isOver pt_M0 (fun (r : Int32) (_ : pt_M) => r = v0)) (hr : wpX12_isOver pz_M0 (fun (r : Int32) (_ : pt_M) => r = v0))
    (kk : ∀ (H1 : Heap) (locs1 : List Loc) (ls1 : Array Slot), va_S (fun q : Nat => s.heap.size ≤ q) s.heap H1 locs1 → lv_has ls1 9 [(4, .int 0), (0, .ref b)] → W p l e room_1 s m #[Value.ref b] below meth c H1 locs1 600002 7302232 Q (F0 m 1781 ls1 [])) : W p l e room_1 s m #[Value.ref b] below meth c H locs 401 4242 Q (F0 m 1044 ls []) := by
  refine lv_aload_n F.1.1 F.1.2.1 dL_law_1044 rfl (lv_at hl 3 rfl) ?_
  refine va_calli (pt_runV (n := 0) (As := []) (rest := []) F hP (pt_c7 _ pt_k0) (pt_l7 pt_k0) rfl (mtX7_isOver l D cA ad K.1 _ pt_M0 _ hc) kw_405 kw_402 kw_52 kw_403 kw_404 ⟨by decide, by decide, by decide +kernel⟩ ⟨rfl, rfl, (Nat.le_of_ble_eq_true rfl), (Nat.le_of_ble_eq_true rfl)⟩ rfl hl.1 rfl (Nat.le_of_ble_eq_true rfl) dL_law_1045 ⟨(Nat.le_of_ble_eq_true rfl), (Nat.le_of_ble_eq_true rfl)⟩) hS (fun q _ h => (pz_fa K hS.1).2.2 q h) (pz_fa K hS.1).2.2 (fun r5 M5 t H1 locs1 ht _ hq5 hB hz ho hS1 => ?_)
  replace hq5 := hq5.symm
  subst hq5
  replace hPr := pz_r2 K hPr ho
  clear hO hP hS
  have hS := hS1
  clear hS1 ho hz
  refine lv_aload_n F.1.1 F.1.2.1 dL_law_1048 rfl (lv_at hl 2 rfl) ?_
  refine va_calli (rt_runVm (n := 0) (As := []) (rest := [.int v0]) F hPr hN hS (pz_fa K hS.1).2.1 (rt_c12 _ rt_k0) (rt_l12 rt_k0) rfl (mtX12_isOver l D cA rd K.2.1 _ pz_M0 _ hr) kw_1494 kw_1491 kw_60 kw_1492 kw_1493 ⟨by decide, by decide, by decide +kernel⟩ ⟨rfl, rfl, (Nat.le_of_ble_eq_true rfl), (Nat.le_of_ble_eq_true rfl)⟩ rfl hl.1 rfl (Nat.le_of_ble_eq_true rfl) dL_law_1049 ⟨(Nat.le_of_ble_eq_true rfl), (Nat.le_of_ble_eq_true rfl)⟩) hS (fun q _ h => (pz_fa K hS.1).2.1 q h) (pz_fa K hS.1).2.1 (fun r6 M1 t H1 locs1 ht _ hq hB hz ho hS1 => ?_)
  replace hq := hq.symm
  clear hS
  have hS := hS1
  clear hS1 ho hz hPr
  refine lv_icmp_eq (tgt := 1781) F.1.1 F.1.2.1 dL_law_1052 (by decide) (fun _ => ?_) (fun hc => absurd hq hc)
  refine W.widen (k := 600002) (n := 7302232) (Nat.le_of_ble_eq_true rfl) (Nat.le_of_ble_eq_true rfl) ?_
  exact kk _ _ _ hS (lv_sub hl [0, 4] rfl)
-- ===== case 16: isEnded
set_option maxHeartbeats 8000000 in
set_option maxRecDepth 100000 in
theorem lc_16 {p : Program} {e : Env} {s : State} {m : MethodId} {below : List Frame} {meth : Method} {c : Code} (l : Launch) (hst : l.stackTraces = false) {b : Nat} {xs : Nat → Int32} {D : va_G} {cA : Nat → ClassId} {ad rd : Nat → Nat} {ao : Nat} {g : Nat → Int64} {H : Heap} {locs : List Loc} {Q : State → Prop} {ls : Array Slot}
    (F : pt_F p m c code 9 s #[Value.ref b] RL D cA) (hbl : b < s.heap.size) (hX : va_X b 6 xs s s.heap) (hZ : px_Z (fun q : Nat => s.heap.size ≤ q) s s.heap) (hN : rt_Zs (rd 13) (rd 14) (fun q : Nat => s.heap.size ≤ q) s s.heap) (hNc : pw_N s) (K : pz_K ad rd ao s.heap.size) (hS : va_S (fun q : Nat => s.heap.size ≤ q) s.heap H locs)
    (hP : va_P D pt_cl (pt_W cA ad pt_M0) H) (hPr : va_P D pt_cl (rt_W cA rd pz_M0) H) (hO : va_P D pt_cl (pw_O cA ao g) H) (hl : lv_has ls 9 [(4, .int 0), (3, .ref ao), (2, .ref (rd 0)), (1, .ref (ad 0)), (0, .ref b)])
    (c0 v0 : Int32) (hc : wpVX7_isEnded (fun X : String => (X = "java/lang/IndexOutOfBoundsException" ∧ c0 = 1)) (xs 1) pt_M0 (fun (r : Int32) (_ : pt_M) => c0 = 0 ∧ r = v0)) (hr : wpX12_isEnded (xs 1) pz_M0 (fun (r : Int32) (M : pt_M) => M 0 0 = c0 ∧ (c0 = 0 → r = v0)))
    (kk : ∀ (H1 : Heap) (locs1 : List Loc) (ls1 : Array Slot), va_S (fun q : Nat => s.heap.size ≤ q) s.heap H1 locs1 → lv_has ls1 9 [(4, .int 0), (0, .ref b)] → W p l e room_1 s m #[Value.ref b] below meth c H1 locs1 600002 7302232 Q (F0 m 1781 ls1 [])) : W p l e room_1 s m #[Value.ref b] below meth c H locs 401 4242 Q (F0 m 1057 ls []) := by
  refine lv_aload_n F.1.1 F.1.2.1 dL_law_1057 rfl (lv_at hl 3 rfl) ?_
  refine lv_aload_n F.1.1 F.1.2.1 dL_law_1058 rfl (lv_at hl 4 rfl) ?_
  refine lv_iload F.1.1 F.1.2.1 dL_law_1059 (lv_at hl 0 rfl) ?_
  refine lv_iconst (v := 1) F.1.1 F.1.2.1 dL_law_1061 (by decide) ?_
  refine lv_iadd F.1.1 F.1.2.1 dL_law_1062 ?_
  refine va_sld F.1.1 F.1.2.1 hX hbl (Nat.not_le.mpr hbl) hS (show vp_in (0 + 1) 6 from by unfold vp_in; decide) dL_law_1063 ?_
  refine W.eq (g2 := F0 m 1064 ls [.int (xs 1), .ref (ad 0)]) rfl ?_
  refine lv_aload_n F.1.1 F.1.2.1 dL_law_1064 rfl (lv_at hl 1 rfl) ?_
  refine va_calli (pw_runS (n := 3) (As := [.ref (ad 0), .int (xs 1), .ref ao]) (rest := []) F (mtL_isEnded l hst D cA ad K.1 ao g _ (xs 1) pt_M0 c0 v0 hc) pw_blind (fun U hU hW => ⟨⟨by rw [hU], by rw [hU]; exact hP, va_K.moved hW.alike F.2⟩, by rw [hU]; exact px_Z.moved hW.alike ((hZ.kept hS.2.1).narrow (pz_fa K hS.1).1), by rw [hU]; exact hO, K.2.2.2.1, pw_N.moved hW.alike hNc⟩) kw_856 kw_854 kw_51 kw_855 ⟨by decide, by decide, by decide +kernel⟩ ⟨rfl, rfl, (Nat.le_of_ble_eq_true rfl), (Nat.le_of_ble_eq_true rfl)⟩ rfl hl.1 rfl (Nat.le_of_ble_eq_true rfl) dL_law_1065 ⟨(Nat.le_of_ble_eq_true rfl), (Nat.le_of_ble_eq_true rfl)⟩) hS (fun q _ h => (pz_fa K hS.1).1 q h) (pz_fa K hS.1).1 (fun r5 g1 t H1 locs1 ht _ hq5 hB hz ho hS1 => ?_)
  obtain ⟨e5, e5v⟩ := hq5
  replace e5 := e5.symm
  subst e5
  rw [ht] at hB
  replace hPr := pz_r1 K hPr ho
  clear hO hP
  have hO := hB
  clear hB hS
  have hS := hS1
  clear hS1 ho hz
  refine W.widen (k := 402) (n := 4248) (Nat.le_of_ble_eq_true rfl) (Nat.le_of_ble_eq_true rfl) ?_
  refine lv_istore (lv' := [(5, .int c0), (4, .int 0), (3, .ref ao), (2, .ref (rd 0)), (1, .ref (ad 0)), (0, .ref b)]) F.1.1 F.1.2.1 dL_law_1068 hl (by decide) rfl (fun ls hl => ?_)
  refine lv_aload_n F.1.1 F.1.2.1 dL_law_1070 rfl (lv_at hl 3 rfl) ?_
  refine lv_aload_n F.1.1 F.1.2.1 dL_law_1071 rfl (lv_at hl 5 rfl) ?_
  refine lv_iload F.1.1 F.1.2.1 dL_law_1072 (lv_at hl 1 rfl) ?_
  refine lv_iconst (v := 1) F.1.1 F.1.2.1 dL_law_1074 (by decide) ?_
  refine lv_iadd F.1.1 F.1.2.1 dL_law_1075 ?_
  refine va_sld F.1.1 F.1.2.1 hX hbl (Nat.not_le.mpr hbl) hS (show vp_in (0 + 1) 6 from by unfold vp_in; decide) dL_law_1076 ?_
  refine W.eq (g2 := F0 m 1077 ls [.int (xs 1), .ref (rd 0)]) rfl ?_
  refine va_calli (rt_runVm (n := 1) (As := [.int (xs 1)]) (rest := []) F hPr hN hS (pz_fa K hS.1).2.1 (rt_c12 _ rt_k0) (rt_l12 rt_k0) rfl (mtX12_isEnded l D cA rd K.2.1 _ (xs 1) pz_M0 _ hr) kw_1499 kw_1496 kw_60 kw_1497 kw_1498 ⟨by decide, by decide, by decide +kernel⟩ ⟨rfl, rfl, (Nat.le_of_ble_eq_true rfl), (Nat.le_of_ble_eq_true rfl)⟩ rfl hl.1 rfl (Nat.le_of_ble_eq_true rfl) dL_law_1077 ⟨(Nat.le_of_ble_eq_true rfl), (Nat.le_of_ble_eq_true rfl)⟩) hS (fun q _ h => (pz_fa K hS.1).2.1 q h) (pz_fa K hS.1).2.1 (fun r6 M1 t H1 locs1 ht _ hq hB hz ho hS1 => ?_)
  replace hO := pz_o1 K hO ho
  have hT : va_P D pt_cl [(rd 0, .inr (12, [.int (M1 0 0), .ref (rd 1), .ref (rd 6), .ref (rd 12), .int (M1 0 4)]))] H1 := by rw [← ht]; exact va_P.sub hB [0] rfl
  clear hS
  have hS := hS1
  clear hS1 ho hz hPr
  refine lv_istore (lv' := [(6, .int r6), (5, .int c0), (4, .int 0), (3, .ref ao), (2, .ref (rd 0)), (1, .ref (ad 0)), (0, .ref b)]) F.1.1 F.1.2.1 dL_law_1080 hl (by decide) rfl (fun ls hl => ?_)
  refine lv_aload_n F.1.1 F.1.2.1 dL_law_1082 rfl (lv_at hl 4 rfl) ?_
  refine va_calli (sx_runV (n := 0) (As := []) (rest := []) F hT 0 rfl rfl (mtTH0 l D cA (rd 0) (M1 0 0) (.ref (rd 1)) (.ref (rd 6)) (.ref (rd 12)) (.int (M1 0 4))) pz_thblind (fun U hU hW => ⟨by rw [hU]; exact hT, va_K.moved hW.alike F.2⟩) kw_1159 kw_1156 kw_60 kw_1157 kw_1158 ⟨by decide, by decide, by decide +kernel⟩ ⟨rfl, rfl, (Nat.le_of_ble_eq_true rfl), (Nat.le_of_ble_eq_true rfl)⟩ rfl hl.1 rfl (Nat.le_of_ble_eq_true rfl) dL_law_1083 ⟨(Nat.le_of_ble_eq_true rfl), (Nat.le_of_ble_eq_true rfl)⟩) hS (fun _ _ h => h.elim) (fun _ h => h.elim) (fun r7 _ t H1 locs1 ht _ e7 _ hz ho hS1 => ?_)
  replace e7 := (e7.trans hq.1).symm
  subst e7
  replace hO := pz_keep hO (fun _ _ _ _ h => h) ho
  clear hS
  have hS := hS1
  clear hS1 ho hz
  refine lv_iload F.1.1 F.1.2.1 dL_law_1086 (lv_at hl 1 rfl) ?_
  refine lv_icmp_eq (tgt := 1093) F.1.1 F.1.2.1 dL_law_1088 (by decide) (fun _ => ?_) (fun hc => absurd rfl hc)
  refine lv_iload F.1.1 F.1.2.1 dL_law_1093 (lv_at hl 1 rfl) ?_
  refine lv_if_ne (tgt := 1117) F.1.1 F.1.2.1 dL_law_1095 (by decide) (fun hc => ?_) (fun hc => ?_)
  · refine lv_goto (tgt := 1781) F.1.1 F.1.2.1 dL_law_1117 (by decide) ?_
    refine W.widen (k := 600002) (n := 7302232) (Nat.le_of_ble_eq_true rfl) (Nat.le_of_ble_eq_true rfl) ?_
    exact kk _ _ _ hS (lv_sub hl [2, 6] rfl)
  · have hc0 : c0 = 0 := hc
    refine lv_aload_n F.1.1 F.1.2.1 dL_law_1098 rfl (lv_at hl 3 rfl) ?_
    refine lv_iconst (v := 0) F.1.1 F.1.2.1 dL_law_1099 (by decide) ?_
    refine va_lald F.1.1 F.1.2.1 F.2 hO 0 6 rfl rfl (show vp_in 0 1 from by unfold vp_in; decide) dL_law_1100 ?_
    refine W.eq (g2 := F0 m 1101 ls [.long (g1 0)]) rfl ?_
    refine lv_iload F.1.1 F.1.2.1 dL_law_1101 (lv_at hl 0 rfl) ?_
    refine lv_if_eq (tgt := 1110) F.1.1 F.1.2.1 dL_law_1103 (by decide) (fun hc => ?_) (fun hc => ?_)
    · refine lv_lconst (v := 0) F.1.1 F.1.2.1 dL_law_1110 rfl ?_
      refine W.lcmp F.1.1 F.1.2.1 dL_law_1111 ?_
      refine lv_topi (fun r_1111 er_1111 => ?_)
      refine lv_if_eq (tgt := 1117) F.1.1 F.1.2.1 dL_law_1112 (by decide) (fun _ => ?_) (fun hcz => absurd (by rw [er_1111, e5v hc0, ← hq.2 hc0, if_pos hc]; exact pz_cmp _) hcz)
      refine lv_goto (tgt := 1781) F.1.1 F.1.2.1 dL_law_1117 (by decide) ?_
      refine W.widen (k := 600002) (n := 7302232) (Nat.le_of_ble_eq_true rfl) (Nat.le_of_ble_eq_true rfl) ?_
      exact kk _ _ _ hS (lv_sub hl [2, 6] rfl)
    · refine lv_lconst (v := 1) F.1.1 F.1.2.1 dL_law_1106 rfl ?_
      refine lv_goto (tgt := 1111) F.1.1 F.1.2.1 dL_law_1107 (by decide) ?_
      refine W.lcmp F.1.1 F.1.2.1 dL_law_1111 ?_
      refine lv_topi (fun r_1111 er_1111 => ?_)
      refine lv_if_eq (tgt := 1117) F.1.1 F.1.2.1 dL_law_1112 (by decide) (fun _ => ?_) (fun hcz => absurd (by rw [er_1111, e5v hc0, ← hq.2 hc0, if_neg hc]; exact pz_cmp _) hcz)
      refine lv_goto (tgt := 1781) F.1.1 F.1.2.1 dL_law_1117 (by decide) ?_
      refine W.widen (k := 600002) (n := 7302232) (Nat.le_of_ble_eq_true rfl) (Nat.le_of_ble_eq_true rfl) ?_
      exact kk _ _ _ hS (lv_sub hl [2, 6] rfl)
-- ===== case 17: ageOf
set_option maxHeartbeats 8000000 in
set_option maxRecDepth 100000 in
theorem lc_17 {p : Program} {e : Env} {s : State} {m : MethodId} {below : List Frame} {meth : Method} {c : Code} (l : Launch) (hst : l.stackTraces = false) {b : Nat} {xs : Nat → Int32} {D : va_G} {cA : Nat → ClassId} {ad rd : Nat → Nat} {ao : Nat} {g : Nat → Int64} {H : Heap} {locs : List Loc} {Q : State → Prop} {ls : Array Slot}
    (F : pt_F p m c code 9 s #[Value.ref b] RL D cA) (hbl : b < s.heap.size) (hX : va_X b 6 xs s s.heap) (hZ : px_Z (fun q : Nat => s.heap.size ≤ q) s s.heap) (hN : rt_Zs (rd 13) (rd 14) (fun q : Nat => s.heap.size ≤ q) s s.heap) (hNc : pw_N s) (K : pz_K ad rd ao s.heap.size) (hS : va_S (fun q : Nat => s.heap.size ≤ q) s.heap H locs)
    (hP : va_P D pt_cl (pt_W cA ad pt_M0) H) (hPr : va_P D pt_cl (rt_W cA rd pz_M0) H) (hO : va_P D pt_cl (pw_O cA ao g) H) (hl : lv_has ls 9 [(4, .int 0), (3, .ref ao), (2, .ref (rd 0)), (1, .ref (ad 0)), (0, .ref b)])
    (c0 v0 : Int32) (hc : wpVX7_ageOf (fun X : String => (X = "java/lang/IndexOutOfBoundsException" ∧ c0 = 1)) (xs 1) pt_M0 (fun (r : Int32) (_ : pt_M) => c0 = 0 ∧ r = v0)) (hr : wpX12_ageOf (xs 1) pz_M0 (fun (r : Int32) (M : pt_M) => M 0 0 = c0 ∧ (c0 = 0 → r = v0)))
    (kk : ∀ (H1 : Heap) (locs1 : List Loc) (ls1 : Array Slot), va_S (fun q : Nat => s.heap.size ≤ q) s.heap H1 locs1 → lv_has ls1 9 [(4, .int 0), (0, .ref b)] → W p l e room_1 s m #[Value.ref b] below meth c H1 locs1 600002 7302232 Q (F0 m 1781 ls1 [])) : W p l e room_1 s m #[Value.ref b] below meth c H locs 401 4242 Q (F0 m 1120 ls []) := by
  refine lv_aload_n F.1.1 F.1.2.1 dL_law_1120 rfl (lv_at hl 3 rfl) ?_
  refine lv_aload_n F.1.1 F.1.2.1 dL_law_1121 rfl (lv_at hl 4 rfl) ?_
  refine lv_iload F.1.1 F.1.2.1 dL_law_1122 (lv_at hl 0 rfl) ?_
  refine lv_iconst (v := 1) F.1.1 F.1.2.1 dL_law_1124 (by decide) ?_
  refine lv_iadd F.1.1 F.1.2.1 dL_law_1125 ?_
  refine va_sld F.1.1 F.1.2.1 hX hbl (Nat.not_le.mpr hbl) hS (show vp_in (0 + 1) 6 from by unfold vp_in; decide) dL_law_1126 ?_
  refine W.eq (g2 := F0 m 1127 ls [.int (xs 1), .ref (ad 0)]) rfl ?_
  refine lv_aload_n F.1.1 F.1.2.1 dL_law_1127 rfl (lv_at hl 1 rfl) ?_
  refine va_calli (pw_runS (n := 3) (As := [.ref (ad 0), .int (xs 1), .ref ao]) (rest := []) F (mtL_ageOf l hst D cA ad K.1 ao g _ (xs 1) pt_M0 c0 v0 hc) pw_blind (fun U hU hW => ⟨⟨by rw [hU], by rw [hU]; exact hP, va_K.moved hW.alike F.2⟩, by rw [hU]; exact px_Z.moved hW.alike ((hZ.kept hS.2.1).narrow (pz_fa K hS.1).1), by rw [hU]; exact hO, K.2.2.2.1, pw_N.moved hW.alike hNc⟩) kw_863 kw_861 kw_51 kw_862 ⟨by decide, by decide, by decide +kernel⟩ ⟨rfl, rfl, (Nat.le_of_ble_eq_true rfl), (Nat.le_of_ble_eq_true rfl)⟩ rfl hl.1 rfl (Nat.le_of_ble_eq_true rfl) dL_law_1128 ⟨(Nat.le_of_ble_eq_true rfl), (Nat.le_of_ble_eq_true rfl)⟩) hS (fun q _ h => (pz_fa K hS.1).1 q h) (pz_fa K hS.1).1 (fun r5 g1 t H1 locs1 ht _ hq5 hB hz ho hS1 => ?_)
  obtain ⟨e5, e5v⟩ := hq5
  replace e5 := e5.symm
  subst e5
  rw [ht] at hB
  replace hPr := pz_r1 K hPr ho
  clear hO hP
  have hO := hB
  clear hB hS
  have hS := hS1
  clear hS1 ho hz
  refine W.widen (k := 402) (n := 4248) (Nat.le_of_ble_eq_true rfl) (Nat.le_of_ble_eq_true rfl) ?_
  refine lv_istore (lv' := [(5, .int c0), (4, .int 0), (3, .ref ao), (2, .ref (rd 0)), (1, .ref (ad 0)), (0, .ref b)]) F.1.1 F.1.2.1 dL_law_1131 hl (by decide) rfl (fun ls hl => ?_)
  refine lv_aload_n F.1.1 F.1.2.1 dL_law_1133 rfl (lv_at hl 3 rfl) ?_
  refine lv_aload_n F.1.1 F.1.2.1 dL_law_1134 rfl (lv_at hl 5 rfl) ?_
  refine lv_iload F.1.1 F.1.2.1 dL_law_1135 (lv_at hl 1 rfl) ?_
  refine lv_iconst (v := 1) F.1.1 F.1.2.1 dL_law_1137 (by decide) ?_
  refine lv_iadd F.1.1 F.1.2.1 dL_law_1138 ?_
  refine va_sld F.1.1 F.1.2.1 hX hbl (Nat.not_le.mpr hbl) hS (show vp_in (0 + 1) 6 from by unfold vp_in; decide) dL_law_1139 ?_
  refine W.eq (g2 := F0 m 1140 ls [.int (xs 1), .ref (rd 0)]) rfl ?_
  refine va_calli (rt_runVm (n := 1) (As := [.int (xs 1)]) (rest := []) F hPr hN hS (pz_fa K hS.1).2.1 (rt_c12 _ rt_k0) (rt_l12 rt_k0) rfl (mtX12_ageOf l D cA rd K.2.1 _ (xs 1) pz_M0 _ hr) kw_1504 kw_1501 kw_60 kw_1502 kw_1503 ⟨by decide, by decide, by decide +kernel⟩ ⟨rfl, rfl, (Nat.le_of_ble_eq_true rfl), (Nat.le_of_ble_eq_true rfl)⟩ rfl hl.1 rfl (Nat.le_of_ble_eq_true rfl) dL_law_1140 ⟨(Nat.le_of_ble_eq_true rfl), (Nat.le_of_ble_eq_true rfl)⟩) hS (fun q _ h => (pz_fa K hS.1).2.1 q h) (pz_fa K hS.1).2.1 (fun r6 M1 t H1 locs1 ht _ hq hB hz ho hS1 => ?_)
  replace hO := pz_o1 K hO ho
  have hT : va_P D pt_cl [(rd 0, .inr (12, [.int (M1 0 0), .ref (rd 1), .ref (rd 6), .ref (rd 12), .int (M1 0 4)]))] H1 := by rw [← ht]; exact va_P.sub hB [0] rfl
  clear hS
  have hS := hS1
  clear hS1 ho hz hPr
  refine lv_istore (lv' := [(6, .int r6), (5, .int c0), (4, .int 0), (3, .ref ao), (2, .ref (rd 0)), (1, .ref (ad 0)), (0, .ref b)]) F.1.1 F.1.2.1 dL_law_1143 hl (by decide) rfl (fun ls hl => ?_)
  refine lv_aload_n F.1.1 F.1.2.1 dL_law_1145 rfl (lv_at hl 4 rfl) ?_
  refine va_calli (sx_runV (n := 0) (As := []) (rest := []) F hT 0 rfl rfl (mtTH0 l D cA (rd 0) (M1 0 0) (.ref (rd 1)) (.ref (rd 6)) (.ref (rd 12)) (.int (M1 0 4))) pz_thblind (fun U hU hW => ⟨by rw [hU]; exact hT, va_K.moved hW.alike F.2⟩) kw_1159 kw_1156 kw_60 kw_1157 kw_1158 ⟨by decide, by decide, by decide +kernel⟩ ⟨rfl, rfl, (Nat.le_of_ble_eq_true rfl), (Nat.le_of_ble_eq_true rfl)⟩ rfl hl.1 rfl (Nat.le_of_ble_eq_true rfl) dL_law_1146 ⟨(Nat.le_of_ble_eq_true rfl), (Nat.le_of_ble_eq_true rfl)⟩) hS (fun _ _ h => h.elim) (fun _ h => h.elim) (fun r7 _ t H1 locs1 ht _ e7 _ hz ho hS1 => ?_)
  replace e7 := (e7.trans hq.1).symm
  subst e7
  replace hO := pz_keep hO (fun _ _ _ _ h => h) ho
  clear hS
  have hS := hS1
  clear hS1 ho hz
  refine lv_iload F.1.1 F.1.2.1 dL_law_1149 (lv_at hl 1 rfl) ?_
  refine lv_icmp_eq (tgt := 1156) F.1.1 F.1.2.1 dL_law_1151 (by decide) (fun _ => ?_) (fun hc => absurd rfl hc)
  refine lv_iload F.1.1 F.1.2.1 dL_law_1156 (lv_at hl 1 rfl) ?_
  refine lv_if_ne (tgt := 1173) F.1.1 F.1.2.1 dL_law_1158 (by decide) (fun hc => ?_) (fun hc => ?_)
  · refine lv_goto (tgt := 1781) F.1.1 F.1.2.1 dL_law_1173 (by decide) ?_
    refine W.widen (k := 600002) (n := 7302232) (Nat.le_of_ble_eq_true rfl) (Nat.le_of_ble_eq_true rfl) ?_
    exact kk _ _ _ hS (lv_sub hl [2, 6] rfl)
  · have hc0 : c0 = 0 := hc
    refine lv_aload_n F.1.1 F.1.2.1 dL_law_1161 rfl (lv_at hl 3 rfl) ?_
    refine lv_iconst (v := 0) F.1.1 F.1.2.1 dL_law_1162 (by decide) ?_
    refine va_lald F.1.1 F.1.2.1 F.2 hO 0 6 rfl rfl (show vp_in 0 1 from by unfold vp_in; decide) dL_law_1163 ?_
    refine W.eq (g2 := F0 m 1164 ls [.long (g1 0)]) rfl ?_
    refine lv_iload F.1.1 F.1.2.1 dL_law_1164 (lv_at hl 0 rfl) ?_
    refine lv_i2l (v := r6.toInt64) F.1.1 F.1.2.1 dL_law_1166 rfl ?_
    refine W.lcmp F.1.1 F.1.2.1 dL_law_1167 ?_
    refine lv_topi (fun r_1167 er_1167 => ?_)
    refine lv_if_eq (tgt := 1173) F.1.1 F.1.2.1 dL_law_1168 (by decide) (fun _ => ?_) (fun hc => absurd (by rw [er_1167, e5v hc0, hq.2 hc0]; exact pz_cmp _) hc)
    refine lv_goto (tgt := 1781) F.1.1 F.1.2.1 dL_law_1173 (by decide) ?_
    refine W.widen (k := 600002) (n := 7302232) (Nat.le_of_ble_eq_true rfl) (Nat.le_of_ble_eq_true rfl) ?_
    exact kk _ _ _ hS (lv_sub hl [2, 6] rfl)
-- ===== case 18: record
set_option maxHeartbeats 8000000 in
set_option maxRecDepth 100000 in
theorem lc_18 {p : Program} {e : Env} {s : State} {m : MethodId} {below : List Frame} {meth : Method} {c : Code} (l : Launch) (hst : l.stackTraces = false) {b : Nat} {xs : Nat → Int32} {D : va_G} {cA : Nat → ClassId} {ad rd : Nat → Nat} {ao : Nat} {g : Nat → Int64} {H : Heap} {locs : List Loc} {Q : State → Prop} {ls : Array Slot}
    (F : pt_F p m c code 9 s #[Value.ref b] RL D cA) (hbl : b < s.heap.size) (hX : va_X b 6 xs s s.heap) (hZ : px_Z (fun q : Nat => s.heap.size ≤ q) s s.heap) (hN : rt_Zs (rd 13) (rd 14) (fun q : Nat => s.heap.size ≤ q) s s.heap) (hNc : pw_N s) (K : pz_K ad rd ao s.heap.size) (hS : va_S (fun q : Nat => s.heap.size ≤ q) s.heap H locs)
    (hP : va_P D pt_cl (pt_W cA ad pt_M0) H) (hPr : va_P D pt_cl (rt_W cA rd pz_M0) H) (hO : va_P D pt_cl (pw_O cA ao g) H) (hl : lv_has ls 9 [(4, .int 0), (3, .ref ao), (2, .ref (rd 0)), (1, .ref (ad 0)), (0, .ref b)])
    (c0 v0 : Int32) (hc : wpVX7_record (fun X : String => (X = "java/lang/IndexOutOfBoundsException" ∧ c0 = 1) ∨ (X = "java/lang/IllegalArgumentException" ∧ c0 = 2)) (xs 1) pt_M0 (fun (r : Int32) (_ : pt_M) => c0 = 0 ∧ r = v0)) (hr : wpX12_record (xs 1) pz_M0 (fun (r : Int32) (M : pt_M) => M 0 0 = c0 ∧ (c0 = 0 → r = v0)))
    (kk : ∀ (H1 : Heap) (locs1 : List Loc) (ls1 : Array Slot), va_S (fun q : Nat => s.heap.size ≤ q) s.heap H1 locs1 → lv_has ls1 9 [(4, .int 0), (0, .ref b)] → W p l e room_1 s m #[Value.ref b] below meth c H1 locs1 600002 7302232 Q (F0 m 1781 ls1 [])) : W p l e room_1 s m #[Value.ref b] below meth c H locs 401 4242 Q (F0 m 1176 ls []) := by
  refine lv_aload_n F.1.1 F.1.2.1 dL_law_1176 rfl (lv_at hl 3 rfl) ?_
  refine lv_aload_n F.1.1 F.1.2.1 dL_law_1177 rfl (lv_at hl 4 rfl) ?_
  refine lv_iload F.1.1 F.1.2.1 dL_law_1178 (lv_at hl 0 rfl) ?_
  refine lv_iconst (v := 1) F.1.1 F.1.2.1 dL_law_1180 (by decide) ?_
  refine lv_iadd F.1.1 F.1.2.1 dL_law_1181 ?_
  refine va_sld F.1.1 F.1.2.1 hX hbl (Nat.not_le.mpr hbl) hS (show vp_in (0 + 1) 6 from by unfold vp_in; decide) dL_law_1182 ?_
  refine W.eq (g2 := F0 m 1183 ls [.int (xs 1), .ref (ad 0)]) rfl ?_
  refine lv_aload_n F.1.1 F.1.2.1 dL_law_1183 rfl (lv_at hl 1 rfl) ?_
  refine va_calli (pw_runS (n := 3) (As := [.ref (ad 0), .int (xs 1), .ref ao]) (rest := []) F (mtL_record l hst D cA ad K.1 ao g _ (xs 1) pt_M0 c0 v0 hc) pw_blind (fun U hU hW => ⟨⟨by rw [hU], by rw [hU]; exact hP, va_K.moved hW.alike F.2⟩, by rw [hU]; exact px_Z.moved hW.alike ((hZ.kept hS.2.1).narrow (pz_fa K hS.1).1), by rw [hU]; exact hO, K.2.2.2.1, pw_N.moved hW.alike hNc⟩) kw_867 kw_865 kw_51 kw_866 ⟨by decide, by decide, by decide +kernel⟩ ⟨rfl, rfl, (Nat.le_of_ble_eq_true rfl), (Nat.le_of_ble_eq_true rfl)⟩ rfl hl.1 rfl (Nat.le_of_ble_eq_true rfl) dL_law_1184 ⟨(Nat.le_of_ble_eq_true rfl), (Nat.le_of_ble_eq_true rfl)⟩) hS (fun q _ h => (pz_fa K hS.1).1 q h) (pz_fa K hS.1).1 (fun r5 g1 t H1 locs1 ht _ hq5 hB hz ho hS1 => ?_)
  obtain ⟨e5, e5v⟩ := hq5
  replace e5 := e5.symm
  subst e5
  rw [ht] at hB
  replace hPr := pz_r1 K hPr ho
  clear hO hP
  have hO := hB
  clear hB hS
  have hS := hS1
  clear hS1 ho hz
  refine W.widen (k := 403) (n := 4254) (Nat.le_of_ble_eq_true rfl) (Nat.le_of_ble_eq_true rfl) ?_
  refine lv_istore (lv' := [(5, .int c0), (4, .int 0), (3, .ref ao), (2, .ref (rd 0)), (1, .ref (ad 0)), (0, .ref b)]) F.1.1 F.1.2.1 dL_law_1187 hl (by decide) rfl (fun ls hl => ?_)
  refine lv_aload_n F.1.1 F.1.2.1 dL_law_1189 rfl (lv_at hl 3 rfl) ?_
  refine lv_aload_n F.1.1 F.1.2.1 dL_law_1190 rfl (lv_at hl 5 rfl) ?_
  refine lv_iload F.1.1 F.1.2.1 dL_law_1191 (lv_at hl 1 rfl) ?_
  refine lv_iconst (v := 1) F.1.1 F.1.2.1 dL_law_1193 (by decide) ?_
  refine lv_iadd F.1.1 F.1.2.1 dL_law_1194 ?_
  refine va_sld F.1.1 F.1.2.1 hX hbl (Nat.not_le.mpr hbl) hS (show vp_in (0 + 1) 6 from by unfold vp_in; decide) dL_law_1195 ?_
  refine W.eq (g2 := F0 m 1196 ls [.int (xs 1), .ref (rd 0)]) rfl ?_
  refine va_calli (rt_runVm (n := 1) (As := [.int (xs 1)]) (rest := []) F hPr hN hS (pz_fa K hS.1).2.1 (rt_c12 _ rt_k0) (rt_l12 rt_k0) rfl (mtX12_record l D cA rd K.2.1 _ (xs 1) pz_M0 _ hr) kw_1512 kw_1509 kw_60 kw_1510 kw_1511 ⟨by decide, by decide, by decide +kernel⟩ ⟨rfl, rfl, (Nat.le_of_ble_eq_true rfl), (Nat.le_of_ble_eq_true rfl)⟩ rfl hl.1 rfl (Nat.le_of_ble_eq_true rfl) dL_law_1196 ⟨(Nat.le_of_ble_eq_true rfl), (Nat.le_of_ble_eq_true rfl)⟩) hS (fun q _ h => (pz_fa K hS.1).2.1 q h) (pz_fa K hS.1).2.1 (fun r6 M1 t H1 locs1 ht _ hq hB hz ho hS1 => ?_)
  replace hO := pz_o1 K hO ho
  have hT : va_P D pt_cl [(rd 0, .inr (12, [.int (M1 0 0), .ref (rd 1), .ref (rd 6), .ref (rd 12), .int (M1 0 4)]))] H1 := by rw [← ht]; exact va_P.sub hB [0] rfl
  clear hS
  have hS := hS1
  clear hS1 ho hz hPr
  refine lv_istore (lv' := [(6, .int r6), (5, .int c0), (4, .int 0), (3, .ref ao), (2, .ref (rd 0)), (1, .ref (ad 0)), (0, .ref b)]) F.1.1 F.1.2.1 dL_law_1199 hl (by decide) rfl (fun ls hl => ?_)
  refine lv_aload_n F.1.1 F.1.2.1 dL_law_1201 rfl (lv_at hl 4 rfl) ?_
  refine va_calli (sx_runV (n := 0) (As := []) (rest := []) F hT 0 rfl rfl (mtTH0 l D cA (rd 0) (M1 0 0) (.ref (rd 1)) (.ref (rd 6)) (.ref (rd 12)) (.int (M1 0 4))) pz_thblind (fun U hU hW => ⟨by rw [hU]; exact hT, va_K.moved hW.alike F.2⟩) kw_1159 kw_1156 kw_60 kw_1157 kw_1158 ⟨by decide, by decide, by decide +kernel⟩ ⟨rfl, rfl, (Nat.le_of_ble_eq_true rfl), (Nat.le_of_ble_eq_true rfl)⟩ rfl hl.1 rfl (Nat.le_of_ble_eq_true rfl) dL_law_1202 ⟨(Nat.le_of_ble_eq_true rfl), (Nat.le_of_ble_eq_true rfl)⟩) hS (fun _ _ h => h.elim) (fun _ h => h.elim) (fun r7 _ t H1 locs1 ht _ e7 _ hz ho hS1 => ?_)
  replace e7 := (e7.trans hq.1).symm
  subst e7
  replace hO := pz_keep hO (fun _ _ _ _ h => h) ho
  clear hS
  have hS := hS1
  clear hS1 ho hz
  refine lv_iload F.1.1 F.1.2.1 dL_law_1205 (lv_at hl 1 rfl) ?_
  refine lv_icmp_eq (tgt := 1212) F.1.1 F.1.2.1 dL_law_1207 (by decide) (fun _ => ?_) (fun hc => absurd rfl hc)
  refine lv_iload F.1.1 F.1.2.1 dL_law_1212 (lv_at hl 1 rfl) ?_
  refine lv_if_ne (tgt := 1229) F.1.1 F.1.2.1 dL_law_1214 (by decide) (fun hc => ?_) (fun hc => ?_)
  · refine lv_goto (tgt := 1781) F.1.1 F.1.2.1 dL_law_1229 (by decide) ?_
    refine W.widen (k := 600002) (n := 7302232) (Nat.le_of_ble_eq_true rfl) (Nat.le_of_ble_eq_true rfl) ?_
    exact kk _ _ _ hS (lv_sub hl [2, 6] rfl)
  · have hc0 : c0 = 0 := hc
    refine lv_aload_n F.1.1 F.1.2.1 dL_law_1217 rfl (lv_at hl 3 rfl) ?_
    refine lv_iconst (v := 0) F.1.1 F.1.2.1 dL_law_1218 (by decide) ?_
    refine va_lald F.1.1 F.1.2.1 F.2 hO 0 6 rfl rfl (show vp_in 0 1 from by unfold vp_in; decide) dL_law_1219 ?_
    refine W.eq (g2 := F0 m 1220 ls [.long (g1 0)]) rfl ?_
    refine lv_iload F.1.1 F.1.2.1 dL_law_1220 (lv_at hl 0 rfl) ?_
    refine lv_i2l (v := r6.toInt64) F.1.1 F.1.2.1 dL_law_1222 rfl ?_
    refine W.lcmp F.1.1 F.1.2.1 dL_law_1223 ?_
    refine lv_topi (fun r_1223 er_1223 => ?_)
    refine lv_if_eq (tgt := 1229) F.1.1 F.1.2.1 dL_law_1224 (by decide) (fun _ => ?_) (fun hc => absurd (by rw [er_1223, e5v hc0, hq.2 hc0]; exact pz_cmp _) hc)
    refine lv_goto (tgt := 1781) F.1.1 F.1.2.1 dL_law_1229 (by decide) ?_
    refine W.widen (k := 600002) (n := 7302232) (Nat.le_of_ble_eq_true rfl) (Nat.le_of_ble_eq_true rfl) ?_
    exact kk _ _ _ hS (lv_sub hl [2, 6] rfl)
-- ===== case 19: variable
set_option maxHeartbeats 8000000 in
set_option maxRecDepth 100000 in
theorem lc_19 {p : Program} {e : Env} {s : State} {m : MethodId} {below : List Frame} {meth : Method} {c : Code} (l : Launch) (hst : l.stackTraces = false) {b : Nat} {xs : Nat → Int32} {D : va_G} {cA : Nat → ClassId} {ad rd : Nat → Nat} {ao : Nat} {g : Nat → Int64} {H : Heap} {locs : List Loc} {Q : State → Prop} {ls : Array Slot}
    (F : pt_F p m c code 9 s #[Value.ref b] RL D cA) (hbl : b < s.heap.size) (hX : va_X b 6 xs s s.heap) (hZ : px_Z (fun q : Nat => s.heap.size ≤ q) s s.heap) (hN : rt_Zs (rd 13) (rd 14) (fun q : Nat => s.heap.size ≤ q) s s.heap) (hNc : pw_N s) (K : pz_K ad rd ao s.heap.size) (hS : va_S (fun q : Nat => s.heap.size ≤ q) s.heap H locs)
    (hP : va_P D pt_cl (pt_W cA ad pt_M0) H) (hPr : va_P D pt_cl (rt_W cA rd pz_M0) H) (hO : va_P D pt_cl (pw_O cA ao g) H) (hl : lv_has ls 9 [(4, .int 0), (3, .ref ao), (2, .ref (rd 0)), (1, .ref (ad 0)), (0, .ref b)])
    (c0 v0 : Int32) (hc : wpVX7_variable (fun X : String => (X = "java/lang/IndexOutOfBoundsException" ∧ c0 = 1)) (xs 1) pt_M0 (fun (r : Int32) (_ : pt_M) => c0 = 0 ∧ r = v0)) (hr : wpX12_variable (xs 1) pz_M0 (fun (r : Int32) (M : pt_M) => M 0 0 = c0 ∧ (c0 = 0 → r = v0)))
    (kk : ∀ (H1 : Heap) (locs1 : List Loc) (ls1 : Array Slot), va_S (fun q : Nat => s.heap.size ≤ q) s.heap H1 locs1 → lv_has ls1 9 [(4, .int 0), (0, .ref b)] → W p l e room_1 s m #[Value.ref b] below meth c H1 locs1 600002 7302232 Q (F0 m 1781 ls1 [])) : W p l e room_1 s m #[Value.ref b] below meth c H locs 401 4242 Q (F0 m 1232 ls []) := by
  refine lv_aload_n F.1.1 F.1.2.1 dL_law_1232 rfl (lv_at hl 3 rfl) ?_
  refine lv_aload_n F.1.1 F.1.2.1 dL_law_1233 rfl (lv_at hl 4 rfl) ?_
  refine lv_iload F.1.1 F.1.2.1 dL_law_1234 (lv_at hl 0 rfl) ?_
  refine lv_iconst (v := 1) F.1.1 F.1.2.1 dL_law_1236 (by decide) ?_
  refine lv_iadd F.1.1 F.1.2.1 dL_law_1237 ?_
  refine va_sld F.1.1 F.1.2.1 hX hbl (Nat.not_le.mpr hbl) hS (show vp_in (0 + 1) 6 from by unfold vp_in; decide) dL_law_1238 ?_
  refine W.eq (g2 := F0 m 1239 ls [.int (xs 1), .ref (ad 0)]) rfl ?_
  refine lv_aload_n F.1.1 F.1.2.1 dL_law_1239 rfl (lv_at hl 1 rfl) ?_
  refine va_calli (pw_runS (n := 3) (As := [.ref (ad 0), .int (xs 1), .ref ao]) (rest := []) F (mtL_variable l hst D cA ad K.1 ao g _ (xs 1) pt_M0 c0 v0 hc) pw_blind (fun U hU hW => ⟨⟨by rw [hU], by rw [hU]; exact hP, va_K.moved hW.alike F.2⟩, by rw [hU]; exact px_Z.moved hW.alike ((hZ.kept hS.2.1).narrow (pz_fa K hS.1).1), by rw [hU]; exact hO, K.2.2.2.1, pw_N.moved hW.alike hNc⟩) kw_871 kw_869 kw_51 kw_870 ⟨by decide, by decide, by decide +kernel⟩ ⟨rfl, rfl, (Nat.le_of_ble_eq_true rfl), (Nat.le_of_ble_eq_true rfl)⟩ rfl hl.1 rfl (Nat.le_of_ble_eq_true rfl) dL_law_1240 ⟨(Nat.le_of_ble_eq_true rfl), (Nat.le_of_ble_eq_true rfl)⟩) hS (fun q _ h => (pz_fa K hS.1).1 q h) (pz_fa K hS.1).1 (fun r5 g1 t H1 locs1 ht _ hq5 hB hz ho hS1 => ?_)
  obtain ⟨e5, e5v⟩ := hq5
  replace e5 := e5.symm
  subst e5
  rw [ht] at hB
  replace hPr := pz_r1 K hPr ho
  clear hO hP
  have hO := hB
  clear hB hS
  have hS := hS1
  clear hS1 ho hz
  refine W.widen (k := 402) (n := 4248) (Nat.le_of_ble_eq_true rfl) (Nat.le_of_ble_eq_true rfl) ?_
  refine lv_istore (lv' := [(5, .int c0), (4, .int 0), (3, .ref ao), (2, .ref (rd 0)), (1, .ref (ad 0)), (0, .ref b)]) F.1.1 F.1.2.1 dL_law_1243 hl (by decide) rfl (fun ls hl => ?_)
  refine lv_aload_n F.1.1 F.1.2.1 dL_law_1245 rfl (lv_at hl 3 rfl) ?_
  refine lv_aload_n F.1.1 F.1.2.1 dL_law_1246 rfl (lv_at hl 5 rfl) ?_
  refine lv_iload F.1.1 F.1.2.1 dL_law_1247 (lv_at hl 1 rfl) ?_
  refine lv_iconst (v := 1) F.1.1 F.1.2.1 dL_law_1249 (by decide) ?_
  refine lv_iadd F.1.1 F.1.2.1 dL_law_1250 ?_
  refine va_sld F.1.1 F.1.2.1 hX hbl (Nat.not_le.mpr hbl) hS (show vp_in (0 + 1) 6 from by unfold vp_in; decide) dL_law_1251 ?_
  refine W.eq (g2 := F0 m 1252 ls [.int (xs 1), .ref (rd 0)]) rfl ?_
  refine va_calli (rt_runVm (n := 1) (As := [.int (xs 1)]) (rest := []) F hPr hN hS (pz_fa K hS.1).2.1 (rt_c12 _ rt_k0) (rt_l12 rt_k0) rfl (mtX12_variable l D cA rd K.2.1 _ (xs 1) pz_M0 _ hr) kw_1516 kw_1513 kw_60 kw_1514 kw_1515 ⟨by decide, by decide, by decide +kernel⟩ ⟨rfl, rfl, (Nat.le_of_ble_eq_true rfl), (Nat.le_of_ble_eq_true rfl)⟩ rfl hl.1 rfl (Nat.le_of_ble_eq_true rfl) dL_law_1252 ⟨(Nat.le_of_ble_eq_true rfl), (Nat.le_of_ble_eq_true rfl)⟩) hS (fun q _ h => (pz_fa K hS.1).2.1 q h) (pz_fa K hS.1).2.1 (fun r6 M1 t H1 locs1 ht _ hq hB hz ho hS1 => ?_)
  replace hO := pz_o1 K hO ho
  have hT : va_P D pt_cl [(rd 0, .inr (12, [.int (M1 0 0), .ref (rd 1), .ref (rd 6), .ref (rd 12), .int (M1 0 4)]))] H1 := by rw [← ht]; exact va_P.sub hB [0] rfl
  clear hS
  have hS := hS1
  clear hS1 ho hz hPr
  refine lv_istore (lv' := [(6, .int r6), (5, .int c0), (4, .int 0), (3, .ref ao), (2, .ref (rd 0)), (1, .ref (ad 0)), (0, .ref b)]) F.1.1 F.1.2.1 dL_law_1255 hl (by decide) rfl (fun ls hl => ?_)
  refine lv_aload_n F.1.1 F.1.2.1 dL_law_1257 rfl (lv_at hl 4 rfl) ?_
  refine va_calli (sx_runV (n := 0) (As := []) (rest := []) F hT 0 rfl rfl (mtTH0 l D cA (rd 0) (M1 0 0) (.ref (rd 1)) (.ref (rd 6)) (.ref (rd 12)) (.int (M1 0 4))) pz_thblind (fun U hU hW => ⟨by rw [hU]; exact hT, va_K.moved hW.alike F.2⟩) kw_1159 kw_1156 kw_60 kw_1157 kw_1158 ⟨by decide, by decide, by decide +kernel⟩ ⟨rfl, rfl, (Nat.le_of_ble_eq_true rfl), (Nat.le_of_ble_eq_true rfl)⟩ rfl hl.1 rfl (Nat.le_of_ble_eq_true rfl) dL_law_1258 ⟨(Nat.le_of_ble_eq_true rfl), (Nat.le_of_ble_eq_true rfl)⟩) hS (fun _ _ h => h.elim) (fun _ h => h.elim) (fun r7 _ t H1 locs1 ht _ e7 _ hz ho hS1 => ?_)
  replace e7 := (e7.trans hq.1).symm
  subst e7
  replace hO := pz_keep hO (fun _ _ _ _ h => h) ho
  clear hS
  have hS := hS1
  clear hS1 ho hz
  refine lv_iload F.1.1 F.1.2.1 dL_law_1261 (lv_at hl 1 rfl) ?_
  refine lv_icmp_eq (tgt := 1268) F.1.1 F.1.2.1 dL_law_1263 (by decide) (fun _ => ?_) (fun hc => absurd rfl hc)
  refine lv_iload F.1.1 F.1.2.1 dL_law_1268 (lv_at hl 1 rfl) ?_
  refine lv_if_ne (tgt := 1285) F.1.1 F.1.2.1 dL_law_1270 (by decide) (fun hc => ?_) (fun hc => ?_)
  · refine lv_goto (tgt := 1781) F.1.1 F.1.2.1 dL_law_1285 (by decide) ?_
    refine W.widen (k := 600002) (n := 7302232) (Nat.le_of_ble_eq_true rfl) (Nat.le_of_ble_eq_true rfl) ?_
    exact kk _ _ _ hS (lv_sub hl [2, 6] rfl)
  · have hc0 : c0 = 0 := hc
    refine lv_aload_n F.1.1 F.1.2.1 dL_law_1273 rfl (lv_at hl 3 rfl) ?_
    refine lv_iconst (v := 0) F.1.1 F.1.2.1 dL_law_1274 (by decide) ?_
    refine va_lald F.1.1 F.1.2.1 F.2 hO 0 6 rfl rfl (show vp_in 0 1 from by unfold vp_in; decide) dL_law_1275 ?_
    refine W.eq (g2 := F0 m 1276 ls [.long (g1 0)]) rfl ?_
    refine lv_iload F.1.1 F.1.2.1 dL_law_1276 (lv_at hl 0 rfl) ?_
    refine lv_i2l (v := r6.toInt64) F.1.1 F.1.2.1 dL_law_1278 rfl ?_
    refine W.lcmp F.1.1 F.1.2.1 dL_law_1279 ?_
    refine lv_topi (fun r_1279 er_1279 => ?_)
    refine lv_if_eq (tgt := 1285) F.1.1 F.1.2.1 dL_law_1280 (by decide) (fun _ => ?_) (fun hc => absurd (by rw [er_1279, e5v hc0, hq.2 hc0]; exact pz_cmp _) hc)
    refine lv_goto (tgt := 1781) F.1.1 F.1.2.1 dL_law_1285 (by decide) ?_
    refine W.widen (k := 600002) (n := 7302232) (Nat.le_of_ble_eq_true rfl) (Nat.le_of_ble_eq_true rfl) ?_
    exact kk _ _ _ hS (lv_sub hl [2, 6] rfl)
