-- ===== case 20: 1288
set_option maxHeartbeats 8000000 in
set_option maxRecDepth 100000 in
theorem lc_20 {p : Program} {e : Env} {s : State} {m : MethodId} {below : List Frame} {meth : Method} {c : Code} (l : Launch) (hst : l.stackTraces = false) {b : Nat} {xs : Nat → Int32} {D : va_G} {cA : Nat → ClassId} {ad rd : Nat → Nat} {ao : Nat} {g : Nat → Int64} {H : Heap} {locs : List Loc} {Q : State → Prop} {ls : Array Slot}
    (F : pt_F p m c code 9 s #[Value.ref b] RL D cA) (hbl : b < s.heap.size) (hX : va_X b 6 xs s s.heap) (hZ : px_Z (fun q : Nat => s.heap.size ≤ q) s s.heap) (hN : rt_Zs (rd 13) (rd 14) (fun q : Nat => s.heap.size ≤ q) s s.heap) (hNc : pw_N s) (K : pz_K ad rd ao s.heap.size) (hS : va_S (fun q : Nat => s.heap.size ≤ q) s.heap H locs)
    (hP : va_P D pt_cl (pt_W cA ad pt_M0) H) (hPr : va_P D pt_cl (rt_W cA rd pz_M0) H) (hO : va_P D pt_cl (pw_O cA ao g) H) (hl : lv_has ls 9 [(4, .int 0), (3, .ref ao), (2, .ref (rd 0)), (1, .ref (ad 0)), (0, .ref b)])
    (v0 : Int32) (hc : wpX7_clock pt_M0 (fun (r : Int32) (_ : pt_M) => r = v0)) (hr : wpX12_clock pz_M0 (fun (r : Int32) (_ : pt_M) => r = v0))
    (kk : ∀ (H1 : Heap) (locs1 : List Loc) (ls1 : Array Slot), va_S (fun q : Nat => s.heap.size ≤ q) s.heap H1 locs1 → lv_has ls1 9 [(4, .int 0), (0, .ref b)] → W p l e room_1 s m #[Value.ref b] below meth c H1 locs1 600002 7302232 Q (F0 m 1781 ls1 [])) : W p l e room_1 s m #[Value.ref b] below meth c H locs 401 4242 Q (F0 m 1288 ls []) := by
  refine lv_aload_n F.1.1 F.1.2.1 dL_law_1288 rfl (lv_at hl 3 rfl) ?_
  refine va_calli (pt_runV (n := 0) (As := []) (rest := []) F hP (pt_c7 _ pt_k0) (pt_l7 pt_k0) rfl (mtX7_clock l D cA ad K.1 _ pt_M0 _ hc) kw_413 kw_410 kw_52 kw_411 kw_412 ⟨by decide, by decide, by decide +kernel⟩ ⟨rfl, rfl, (Nat.le_of_ble_eq_true rfl), (Nat.le_of_ble_eq_true rfl)⟩ rfl hl.1 rfl (Nat.le_of_ble_eq_true rfl) dL_law_1289 ⟨(Nat.le_of_ble_eq_true rfl), (Nat.le_of_ble_eq_true rfl)⟩) hS (fun q _ h => (pz_fa K hS.1).2.2 q h) (pz_fa K hS.1).2.2 (fun r5 M5 t H1 locs1 ht _ hq5 hB hz ho hS1 => ?_)
  replace hq5 := hq5.symm
  subst hq5
  replace hPr := pz_r2 K hPr ho
  clear hO hP hS
  have hS := hS1
  clear hS1 ho hz
  refine lv_aload_n F.1.1 F.1.2.1 dL_law_1292 rfl (lv_at hl 2 rfl) ?_
  refine va_calli (rt_runVm (n := 0) (As := []) (rest := [.int v0]) F hPr hN hS (pz_fa K hS.1).2.1 (rt_c12 _ rt_k0) (rt_l12 rt_k0) rfl (mtX12_clock l D cA rd K.2.1 _ pz_M0 _ hr) kw_1520 kw_1517 kw_60 kw_1518 kw_1519 ⟨by decide, by decide, by decide +kernel⟩ ⟨rfl, rfl, (Nat.le_of_ble_eq_true rfl), (Nat.le_of_ble_eq_true rfl)⟩ rfl hl.1 rfl (Nat.le_of_ble_eq_true rfl) dL_law_1293 ⟨(Nat.le_of_ble_eq_true rfl), (Nat.le_of_ble_eq_true rfl)⟩) hS (fun q _ h => (pz_fa K hS.1).2.1 q h) (pz_fa K hS.1).2.1 (fun r6 M1 t H1 locs1 ht _ hq hB hz ho hS1 => ?_)
  replace hq := hq.symm
  clear hS
  have hS := hS1
  clear hS1 ho hz hPr
  refine lv_icmp_eq (tgt := 1781) F.1.1 F.1.2.1 dL_law_1296 (by decide) (fun _ => ?_) (fun hc => absurd hq hc)
  refine W.widen (k := 600002) (n := 7302232) (Nat.le_of_ble_eq_true rfl) (Nat.le_of_ble_eq_true rfl) ?_
  exact kk _ _ _ hS (lv_sub hl [0, 4] rfl)
-- ===== case 21: fired
set_option maxHeartbeats 8000000 in
set_option maxRecDepth 100000 in
theorem lc_21 {p : Program} {e : Env} {s : State} {m : MethodId} {below : List Frame} {meth : Method} {c : Code} (l : Launch) (hst : l.stackTraces = false) {b : Nat} {xs : Nat → Int32} {D : va_G} {cA : Nat → ClassId} {ad rd : Nat → Nat} {ao : Nat} {g : Nat → Int64} {H : Heap} {locs : List Loc} {Q : State → Prop} {ls : Array Slot}
    (F : pt_F p m c code 9 s #[Value.ref b] RL D cA) (hbl : b < s.heap.size) (hX : va_X b 6 xs s s.heap) (hZ : px_Z (fun q : Nat => s.heap.size ≤ q) s s.heap) (hN : rt_Zs (rd 13) (rd 14) (fun q : Nat => s.heap.size ≤ q) s s.heap) (hNc : pw_N s) (K : pz_K ad rd ao s.heap.size) (hS : va_S (fun q : Nat => s.heap.size ≤ q) s.heap H locs)
    (hP : va_P D pt_cl (pt_W cA ad pt_M0) H) (hPr : va_P D pt_cl (rt_W cA rd pz_M0) H) (hO : va_P D pt_cl (pw_O cA ao g) H) (hl : lv_has ls 9 [(4, .int 0), (3, .ref ao), (2, .ref (rd 0)), (1, .ref (ad 0)), (0, .ref b)])
    (c0 v0 : Int32) (hc : wpVX7_fired (fun X : String => (X = "java/lang/IndexOutOfBoundsException" ∧ c0 = 1)) (xs 1) pt_M0 (fun (r : Int32) (_ : pt_M) => c0 = 0 ∧ r = v0)) (hr : wpX12_fired (xs 1) pz_M0 (fun (r : Int32) (M : pt_M) => M 0 0 = c0 ∧ (c0 = 0 → r = v0)))
    (kk : ∀ (H1 : Heap) (locs1 : List Loc) (ls1 : Array Slot), va_S (fun q : Nat => s.heap.size ≤ q) s.heap H1 locs1 → lv_has ls1 9 [(4, .int 0), (0, .ref b)] → W p l e room_1 s m #[Value.ref b] below meth c H1 locs1 600002 7302232 Q (F0 m 1781 ls1 [])) : W p l e room_1 s m #[Value.ref b] below meth c H locs 401 4242 Q (F0 m 1301 ls []) := by
  refine lv_aload_n F.1.1 F.1.2.1 dL_law_1301 rfl (lv_at hl 3 rfl) ?_
  refine lv_aload_n F.1.1 F.1.2.1 dL_law_1302 rfl (lv_at hl 4 rfl) ?_
  refine lv_iload F.1.1 F.1.2.1 dL_law_1303 (lv_at hl 0 rfl) ?_
  refine lv_iconst (v := 1) F.1.1 F.1.2.1 dL_law_1305 (by decide) ?_
  refine lv_iadd F.1.1 F.1.2.1 dL_law_1306 ?_
  refine va_sld F.1.1 F.1.2.1 hX hbl (Nat.not_le.mpr hbl) hS (show vp_in (0 + 1) 6 from by unfold vp_in; decide) dL_law_1307 ?_
  refine W.eq (g2 := F0 m 1308 ls [.int (xs 1), .ref (ad 0)]) rfl ?_
  refine lv_aload_n F.1.1 F.1.2.1 dL_law_1308 rfl (lv_at hl 1 rfl) ?_
  refine va_calli (pw_runS (n := 3) (As := [.ref (ad 0), .int (xs 1), .ref ao]) (rest := []) F (mtL_fired l hst D cA ad K.1 ao g _ (xs 1) pt_M0 c0 v0 hc) pw_blind (fun U hU hW => ⟨⟨by rw [hU], by rw [hU]; exact hP, va_K.moved hW.alike F.2⟩, by rw [hU]; exact px_Z.moved hW.alike ((hZ.kept hS.2.1).narrow (pz_fa K hS.1).1), by rw [hU]; exact hO, K.2.2.2.1, pw_N.moved hW.alike hNc⟩) kw_875 kw_873 kw_51 kw_874 ⟨by decide, by decide, by decide +kernel⟩ ⟨rfl, rfl, (Nat.le_of_ble_eq_true rfl), (Nat.le_of_ble_eq_true rfl)⟩ rfl hl.1 rfl (Nat.le_of_ble_eq_true rfl) dL_law_1309 ⟨(Nat.le_of_ble_eq_true rfl), (Nat.le_of_ble_eq_true rfl)⟩) hS (fun q _ h => (pz_fa K hS.1).1 q h) (pz_fa K hS.1).1 (fun r5 g1 t H1 locs1 ht _ hq5 hB hz ho hS1 => ?_)
  obtain ⟨e5, e5v⟩ := hq5
  replace e5 := e5.symm
  subst e5
  rw [ht] at hB
  replace hPr := pz_r1 K hPr ho
  clear hO hP
  have hO := hB
  clear hB hS
  have hS := hS1
  clear hS1 ho hz
  refine W.widen (k := 402) (n := 4248) (Nat.le_of_ble_eq_true rfl) (Nat.le_of_ble_eq_true rfl) ?_
  refine lv_istore (lv' := [(5, .int c0), (4, .int 0), (3, .ref ao), (2, .ref (rd 0)), (1, .ref (ad 0)), (0, .ref b)]) F.1.1 F.1.2.1 dL_law_1312 hl (by decide) rfl (fun ls hl => ?_)
  refine lv_aload_n F.1.1 F.1.2.1 dL_law_1314 rfl (lv_at hl 3 rfl) ?_
  refine lv_aload_n F.1.1 F.1.2.1 dL_law_1315 rfl (lv_at hl 5 rfl) ?_
  refine lv_iload F.1.1 F.1.2.1 dL_law_1316 (lv_at hl 1 rfl) ?_
  refine lv_iconst (v := 1) F.1.1 F.1.2.1 dL_law_1318 (by decide) ?_
  refine lv_iadd F.1.1 F.1.2.1 dL_law_1319 ?_
  refine va_sld F.1.1 F.1.2.1 hX hbl (Nat.not_le.mpr hbl) hS (show vp_in (0 + 1) 6 from by unfold vp_in; decide) dL_law_1320 ?_
  refine W.eq (g2 := F0 m 1321 ls [.int (xs 1), .ref (rd 0)]) rfl ?_
  refine va_calli (rt_runVm (n := 1) (As := [.int (xs 1)]) (rest := []) F hPr hN hS (pz_fa K hS.1).2.1 (rt_c12 _ rt_k0) (rt_l12 rt_k0) rfl (mtX12_fired l D cA rd K.2.1 _ (xs 1) pz_M0 _ hr) kw_1524 kw_1521 kw_60 kw_1522 kw_1523 ⟨by decide, by decide, by decide +kernel⟩ ⟨rfl, rfl, (Nat.le_of_ble_eq_true rfl), (Nat.le_of_ble_eq_true rfl)⟩ rfl hl.1 rfl (Nat.le_of_ble_eq_true rfl) dL_law_1321 ⟨(Nat.le_of_ble_eq_true rfl), (Nat.le_of_ble_eq_true rfl)⟩) hS (fun q _ h => (pz_fa K hS.1).2.1 q h) (pz_fa K hS.1).2.1 (fun r6 M1 t H1 locs1 ht _ hq hB hz ho hS1 => ?_)
  replace hO := pz_o1 K hO ho
  have hT : va_P D pt_cl [(rd 0, .inr (12, [.int (M1 0 0), .ref (rd 1), .ref (rd 6), .ref (rd 12), .int (M1 0 4)]))] H1 := by rw [← ht]; exact va_P.sub hB [0] rfl
  clear hS
  have hS := hS1
  clear hS1 ho hz hPr
  refine lv_istore (lv' := [(6, .int r6), (5, .int c0), (4, .int 0), (3, .ref ao), (2, .ref (rd 0)), (1, .ref (ad 0)), (0, .ref b)]) F.1.1 F.1.2.1 dL_law_1324 hl (by decide) rfl (fun ls hl => ?_)
  refine lv_aload_n F.1.1 F.1.2.1 dL_law_1326 rfl (lv_at hl 4 rfl) ?_
  refine va_calli (sx_runV (n := 0) (As := []) (rest := []) F hT 0 rfl rfl (mtTH0 l D cA (rd 0) (M1 0 0) (.ref (rd 1)) (.ref (rd 6)) (.ref (rd 12)) (.int (M1 0 4))) pz_thblind (fun U hU hW => ⟨by rw [hU]; exact hT, va_K.moved hW.alike F.2⟩) kw_1159 kw_1156 kw_60 kw_1157 kw_1158 ⟨by decide, by decide, by decide +kernel⟩ ⟨rfl, rfl, (Nat.le_of_ble_eq_true rfl), (Nat.le_of_ble_eq_true rfl)⟩ rfl hl.1 rfl (Nat.le_of_ble_eq_true rfl) dL_law_1327 ⟨(Nat.le_of_ble_eq_true rfl), (Nat.le_of_ble_eq_true rfl)⟩) hS (fun _ _ h => h.elim) (fun _ h => h.elim) (fun r7 _ t H1 locs1 ht _ e7 _ hz ho hS1 => ?_)
  replace e7 := (e7.trans hq.1).symm
  subst e7
  replace hO := pz_keep hO (fun _ _ _ _ h => h) ho
  clear hS
  have hS := hS1
  clear hS1 ho hz
  refine lv_iload F.1.1 F.1.2.1 dL_law_1330 (lv_at hl 1 rfl) ?_
  refine lv_icmp_eq (tgt := 1337) F.1.1 F.1.2.1 dL_law_1332 (by decide) (fun _ => ?_) (fun hc => absurd rfl hc)
  refine lv_iload F.1.1 F.1.2.1 dL_law_1337 (lv_at hl 1 rfl) ?_
  refine lv_if_ne (tgt := 1354) F.1.1 F.1.2.1 dL_law_1339 (by decide) (fun hc => ?_) (fun hc => ?_)
  · refine lv_goto (tgt := 1781) F.1.1 F.1.2.1 dL_law_1354 (by decide) ?_
    refine W.widen (k := 600002) (n := 7302232) (Nat.le_of_ble_eq_true rfl) (Nat.le_of_ble_eq_true rfl) ?_
    exact kk _ _ _ hS (lv_sub hl [2, 6] rfl)
  · have hc0 : c0 = 0 := hc
    refine lv_aload_n F.1.1 F.1.2.1 dL_law_1342 rfl (lv_at hl 3 rfl) ?_
    refine lv_iconst (v := 0) F.1.1 F.1.2.1 dL_law_1343 (by decide) ?_
    refine va_lald F.1.1 F.1.2.1 F.2 hO 0 6 rfl rfl (show vp_in 0 1 from by unfold vp_in; decide) dL_law_1344 ?_
    refine W.eq (g2 := F0 m 1345 ls [.long (g1 0)]) rfl ?_
    refine lv_iload F.1.1 F.1.2.1 dL_law_1345 (lv_at hl 0 rfl) ?_
    refine lv_i2l (v := r6.toInt64) F.1.1 F.1.2.1 dL_law_1347 rfl ?_
    refine W.lcmp F.1.1 F.1.2.1 dL_law_1348 ?_
    refine lv_topi (fun r_1348 er_1348 => ?_)
    refine lv_if_eq (tgt := 1354) F.1.1 F.1.2.1 dL_law_1349 (by decide) (fun _ => ?_) (fun hc => absurd (by rw [er_1348, e5v hc0, hq.2 hc0]; exact pz_cmp _) hc)
    refine lv_goto (tgt := 1781) F.1.1 F.1.2.1 dL_law_1354 (by decide) ?_
    refine W.widen (k := 600002) (n := 7302232) (Nat.le_of_ble_eq_true rfl) (Nat.le_of_ble_eq_true rfl) ?_
    exact kk _ _ _ hS (lv_sub hl [2, 6] rfl)
-- ===== case 22: 1357
set_option maxHeartbeats 8000000 in
set_option maxRecDepth 100000 in
theorem lc_22 {p : Program} {e : Env} {s : State} {m : MethodId} {below : List Frame} {meth : Method} {c : Code} (l : Launch) (hst : l.stackTraces = false) {b : Nat} {xs : Nat → Int32} {D : va_G} {cA : Nat → ClassId} {ad rd : Nat → Nat} {ao : Nat} {g : Nat → Int64} {H : Heap} {locs : List Loc} {Q : State → Prop} {ls : Array Slot}
    (F : pt_F p m c code 9 s #[Value.ref b] RL D cA) (hbl : b < s.heap.size) (hX : va_X b 6 xs s s.heap) (hZ : px_Z (fun q : Nat => s.heap.size ≤ q) s s.heap) (hN : rt_Zs (rd 13) (rd 14) (fun q : Nat => s.heap.size ≤ q) s s.heap) (hNc : pw_N s) (K : pz_K ad rd ao s.heap.size) (hS : va_S (fun q : Nat => s.heap.size ≤ q) s.heap H locs)
    (hP : va_P D pt_cl (pt_W cA ad pt_M0) H) (hPr : va_P D pt_cl (rt_W cA rd pz_M0) H) (hO : va_P D pt_cl (pw_O cA ao g) H) (hl : lv_has ls 9 [(4, .int 0), (3, .ref ao), (2, .ref (rd 0)), (1, .ref (ad 0)), (0, .ref b)])
    (v0 : Int32) (hc : wpX7_covered pt_M0 (fun (r : Int32) (_ : pt_M) => r = v0)) (hr : wpX12_covered pz_M0 (fun (r : Int32) (_ : pt_M) => r = v0))
    (kk : ∀ (H1 : Heap) (locs1 : List Loc) (ls1 : Array Slot), va_S (fun q : Nat => s.heap.size ≤ q) s.heap H1 locs1 → lv_has ls1 9 [(4, .int 0), (0, .ref b)] → W p l e room_1 s m #[Value.ref b] below meth c H1 locs1 600002 7302232 Q (F0 m 1781 ls1 [])) : W p l e room_1 s m #[Value.ref b] below meth c H locs 401 4242 Q (F0 m 1357 ls []) := by
  refine lv_aload_n F.1.1 F.1.2.1 dL_law_1357 rfl (lv_at hl 3 rfl) ?_
  refine va_calli (pt_runV (n := 0) (As := []) (rest := []) F hP (pt_c7 _ pt_k0) (pt_l7 pt_k0) rfl (mtX7_covered l D cA ad K.1 _ pt_M0 _ hc) kw_417 kw_414 kw_52 kw_415 kw_416 ⟨by decide, by decide, by decide +kernel⟩ ⟨rfl, rfl, (Nat.le_of_ble_eq_true rfl), (Nat.le_of_ble_eq_true rfl)⟩ rfl hl.1 rfl (Nat.le_of_ble_eq_true rfl) dL_law_1358 ⟨(Nat.le_of_ble_eq_true rfl), (Nat.le_of_ble_eq_true rfl)⟩) hS (fun q _ h => (pz_fa K hS.1).2.2 q h) (pz_fa K hS.1).2.2 (fun r5 M5 t H1 locs1 ht _ hq5 hB hz ho hS1 => ?_)
  replace hq5 := hq5.symm
  subst hq5
  replace hPr := pz_r2 K hPr ho
  clear hO hP hS
  have hS := hS1
  clear hS1 ho hz
  refine lv_aload_n F.1.1 F.1.2.1 dL_law_1361 rfl (lv_at hl 2 rfl) ?_
  refine va_calli (rt_runVm (n := 0) (As := []) (rest := [.int v0]) F hPr hN hS (pz_fa K hS.1).2.1 (rt_c12 _ rt_k0) (rt_l12 rt_k0) rfl (mtX12_covered l D cA rd K.2.1 _ pz_M0 _ hr) kw_1528 kw_1525 kw_60 kw_1526 kw_1527 ⟨by decide, by decide, by decide +kernel⟩ ⟨rfl, rfl, (Nat.le_of_ble_eq_true rfl), (Nat.le_of_ble_eq_true rfl)⟩ rfl hl.1 rfl (Nat.le_of_ble_eq_true rfl) dL_law_1362 ⟨(Nat.le_of_ble_eq_true rfl), (Nat.le_of_ble_eq_true rfl)⟩) hS (fun q _ h => (pz_fa K hS.1).2.1 q h) (pz_fa K hS.1).2.1 (fun r6 M1 t H1 locs1 ht _ hq hB hz ho hS1 => ?_)
  replace hq := hq.symm
  clear hS
  have hS := hS1
  clear hS1 ho hz hPr
  refine lv_icmp_eq (tgt := 1781) F.1.1 F.1.2.1 dL_law_1365 (by decide) (fun _ => ?_) (fun hc => absurd hq hc)
  refine W.widen (k := 600002) (n := 7302232) (Nat.le_of_ble_eq_true rfl) (Nat.le_of_ble_eq_true rfl) ?_
  exact kk _ _ _ hS (lv_sub hl [0, 4] rfl)
-- ===== case 23: 1370
set_option maxHeartbeats 8000000 in
set_option maxRecDepth 100000 in
theorem lc_23 {p : Program} {e : Env} {s : State} {m : MethodId} {below : List Frame} {meth : Method} {c : Code} (l : Launch) (hst : l.stackTraces = false) {b : Nat} {xs : Nat → Int32} {D : va_G} {cA : Nat → ClassId} {ad rd : Nat → Nat} {ao : Nat} {g : Nat → Int64} {H : Heap} {locs : List Loc} {Q : State → Prop} {ls : Array Slot}
    (F : pt_F p m c code 9 s #[Value.ref b] RL D cA) (hbl : b < s.heap.size) (hX : va_X b 6 xs s s.heap) (hZ : px_Z (fun q : Nat => s.heap.size ≤ q) s s.heap) (hN : rt_Zs (rd 13) (rd 14) (fun q : Nat => s.heap.size ≤ q) s s.heap) (hNc : pw_N s) (K : pz_K ad rd ao s.heap.size) (hS : va_S (fun q : Nat => s.heap.size ≤ q) s.heap H locs)
    (hP : va_P D pt_cl (pt_W cA ad pt_M0) H) (hPr : va_P D pt_cl (rt_W cA rd pz_M0) H) (hO : va_P D pt_cl (pw_O cA ao g) H) (hl : lv_has ls 9 [(4, .int 0), (3, .ref ao), (2, .ref (rd 0)), (1, .ref (ad 0)), (0, .ref b)])
    (v0 : Int32) (hc : wpX7_lost pt_M0 (fun (r : Int32) (_ : pt_M) => r = v0)) (hr : wpX12_lost pz_M0 (fun (r : Int32) (_ : pt_M) => r = v0))
    (kk : ∀ (H1 : Heap) (locs1 : List Loc) (ls1 : Array Slot), va_S (fun q : Nat => s.heap.size ≤ q) s.heap H1 locs1 → lv_has ls1 9 [(4, .int 0), (0, .ref b)] → W p l e room_1 s m #[Value.ref b] below meth c H1 locs1 600002 7302232 Q (F0 m 1781 ls1 [])) : W p l e room_1 s m #[Value.ref b] below meth c H locs 401 4242 Q (F0 m 1370 ls []) := by
  refine lv_aload_n F.1.1 F.1.2.1 dL_law_1370 rfl (lv_at hl 3 rfl) ?_
  refine va_calli (pt_runV (n := 0) (As := []) (rest := []) F hP (pt_c7 _ pt_k0) (pt_l7 pt_k0) rfl (mtX7_lost l D cA ad K.1 _ pt_M0 _ hc) kw_421 kw_418 kw_52 kw_419 kw_420 ⟨by decide, by decide, by decide +kernel⟩ ⟨rfl, rfl, (Nat.le_of_ble_eq_true rfl), (Nat.le_of_ble_eq_true rfl)⟩ rfl hl.1 rfl (Nat.le_of_ble_eq_true rfl) dL_law_1371 ⟨(Nat.le_of_ble_eq_true rfl), (Nat.le_of_ble_eq_true rfl)⟩) hS (fun q _ h => (pz_fa K hS.1).2.2 q h) (pz_fa K hS.1).2.2 (fun r5 M5 t H1 locs1 ht _ hq5 hB hz ho hS1 => ?_)
  replace hq5 := hq5.symm
  subst hq5
  replace hPr := pz_r2 K hPr ho
  clear hO hP hS
  have hS := hS1
  clear hS1 ho hz
  refine lv_aload_n F.1.1 F.1.2.1 dL_law_1374 rfl (lv_at hl 2 rfl) ?_
  refine va_calli (rt_runVm (n := 0) (As := []) (rest := [.int v0]) F hPr hN hS (pz_fa K hS.1).2.1 (rt_c12 _ rt_k0) (rt_l12 rt_k0) rfl (mtX12_lost l D cA rd K.2.1 _ pz_M0 _ hr) kw_1536 kw_1533 kw_60 kw_1534 kw_1535 ⟨by decide, by decide, by decide +kernel⟩ ⟨rfl, rfl, (Nat.le_of_ble_eq_true rfl), (Nat.le_of_ble_eq_true rfl)⟩ rfl hl.1 rfl (Nat.le_of_ble_eq_true rfl) dL_law_1375 ⟨(Nat.le_of_ble_eq_true rfl), (Nat.le_of_ble_eq_true rfl)⟩) hS (fun q _ h => (pz_fa K hS.1).2.1 q h) (pz_fa K hS.1).2.1 (fun r6 M1 t H1 locs1 ht _ hq hB hz ho hS1 => ?_)
  replace hq := hq.symm
  clear hS
  have hS := hS1
  clear hS1 ho hz hPr
  refine lv_icmp_eq (tgt := 1781) F.1.1 F.1.2.1 dL_law_1378 (by decide) (fun _ => ?_) (fun hc => absurd hq hc)
  refine W.widen (k := 600002) (n := 7302232) (Nat.le_of_ble_eq_true rfl) (Nat.le_of_ble_eq_true rfl) ?_
  exact kk _ _ _ hS (lv_sub hl [0, 4] rfl)
-- ===== case 24: 1383
set_option maxHeartbeats 8000000 in
set_option maxRecDepth 100000 in
theorem lc_24 {p : Program} {e : Env} {s : State} {m : MethodId} {below : List Frame} {meth : Method} {c : Code} (l : Launch) (hst : l.stackTraces = false) {b : Nat} {xs : Nat → Int32} {D : va_G} {cA : Nat → ClassId} {ad rd : Nat → Nat} {ao : Nat} {g : Nat → Int64} {H : Heap} {locs : List Loc} {Q : State → Prop} {ls : Array Slot}
    (F : pt_F p m c code 9 s #[Value.ref b] RL D cA) (hbl : b < s.heap.size) (hX : va_X b 6 xs s s.heap) (hZ : px_Z (fun q : Nat => s.heap.size ≤ q) s s.heap) (hN : rt_Zs (rd 13) (rd 14) (fun q : Nat => s.heap.size ≤ q) s s.heap) (hNc : pw_N s) (K : pz_K ad rd ao s.heap.size) (hS : va_S (fun q : Nat => s.heap.size ≤ q) s.heap H locs)
    (hP : va_P D pt_cl (pt_W cA ad pt_M0) H) (hPr : va_P D pt_cl (rt_W cA rd pz_M0) H) (hO : va_P D pt_cl (pw_O cA ao g) H) (hl : lv_has ls 9 [(4, .int 0), (3, .ref ao), (2, .ref (rd 0)), (1, .ref (ad 0)), (0, .ref b)])
    (v0 : Int32) (hc : wpX7_restless pt_M0 (fun (r : Int32) (_ : pt_M) => r = v0)) (hr : wpX12_restless pz_M0 (fun (r : Int32) (_ : pt_M) => r = v0))
    (kk : ∀ (H1 : Heap) (locs1 : List Loc) (ls1 : Array Slot), va_S (fun q : Nat => s.heap.size ≤ q) s.heap H1 locs1 → lv_has ls1 9 [(4, .int 0), (0, .ref b)] → W p l e room_1 s m #[Value.ref b] below meth c H1 locs1 600002 7302232 Q (F0 m 1781 ls1 [])) : W p l e room_1 s m #[Value.ref b] below meth c H locs 401 4242 Q (F0 m 1383 ls []) := by
  refine lv_aload_n F.1.1 F.1.2.1 dL_law_1383 rfl (lv_at hl 3 rfl) ?_
  refine va_calli (pt_runV (n := 0) (As := []) (rest := []) F hP (pt_c7 _ pt_k0) (pt_l7 pt_k0) rfl (mtX7_restless l D cA ad K.1 _ pt_M0 _ hc) kw_425 kw_422 kw_52 kw_423 kw_424 ⟨by decide, by decide, by decide +kernel⟩ ⟨rfl, rfl, (Nat.le_of_ble_eq_true rfl), (Nat.le_of_ble_eq_true rfl)⟩ rfl hl.1 rfl (Nat.le_of_ble_eq_true rfl) dL_law_1384 ⟨(Nat.le_of_ble_eq_true rfl), (Nat.le_of_ble_eq_true rfl)⟩) hS (fun q _ h => (pz_fa K hS.1).2.2 q h) (pz_fa K hS.1).2.2 (fun r5 M5 t H1 locs1 ht _ hq5 hB hz ho hS1 => ?_)
  replace hq5 := hq5.symm
  subst hq5
  replace hPr := pz_r2 K hPr ho
  clear hO hP hS
  have hS := hS1
  clear hS1 ho hz
  refine lv_aload_n F.1.1 F.1.2.1 dL_law_1387 rfl (lv_at hl 2 rfl) ?_
  refine va_calli (rt_runVm (n := 0) (As := []) (rest := [.int v0]) F hPr hN hS (pz_fa K hS.1).2.1 (rt_c12 _ rt_k0) (rt_l12 rt_k0) rfl (mtX12_restless l D cA rd K.2.1 _ pz_M0 _ hr) kw_1540 kw_1537 kw_60 kw_1538 kw_1539 ⟨by decide, by decide, by decide +kernel⟩ ⟨rfl, rfl, (Nat.le_of_ble_eq_true rfl), (Nat.le_of_ble_eq_true rfl)⟩ rfl hl.1 rfl (Nat.le_of_ble_eq_true rfl) dL_law_1388 ⟨(Nat.le_of_ble_eq_true rfl), (Nat.le_of_ble_eq_true rfl)⟩) hS (fun q _ h => (pz_fa K hS.1).2.1 q h) (pz_fa K hS.1).2.1 (fun r6 M1 t H1 locs1 ht _ hq hB hz ho hS1 => ?_)
  replace hq := hq.symm
  clear hS
  have hS := hS1
  clear hS1 ho hz hPr
  refine lv_icmp_eq (tgt := 1781) F.1.1 F.1.2.1 dL_law_1391 (by decide) (fun _ => ?_) (fun hc => absurd hq hc)
  refine W.widen (k := 600002) (n := 7302232) (Nat.le_of_ble_eq_true rfl) (Nat.le_of_ble_eq_true rfl) ?_
  exact kk _ _ _ hS (lv_sub hl [0, 4] rfl)
-- ===== case 25: wouldFire
set_option maxHeartbeats 8000000 in
set_option maxRecDepth 100000 in
theorem lc_25 {p : Program} {e : Env} {s : State} {m : MethodId} {below : List Frame} {meth : Method} {c : Code} (l : Launch) (hst : l.stackTraces = false) {b : Nat} {xs : Nat → Int32} {D : va_G} {cA : Nat → ClassId} {ad rd : Nat → Nat} {ao : Nat} {g : Nat → Int64} {H : Heap} {locs : List Loc} {Q : State → Prop} {ls : Array Slot}
    (F : pt_F p m c code 9 s #[Value.ref b] RL D cA) (hbl : b < s.heap.size) (hX : va_X b 6 xs s s.heap) (hZ : px_Z (fun q : Nat => s.heap.size ≤ q) s s.heap) (hN : rt_Zs (rd 13) (rd 14) (fun q : Nat => s.heap.size ≤ q) s s.heap) (hNc : pw_N s) (K : pz_K ad rd ao s.heap.size) (hS : va_S (fun q : Nat => s.heap.size ≤ q) s.heap H locs)
    (hP : va_P D pt_cl (pt_W cA ad pt_M0) H) (hPr : va_P D pt_cl (rt_W cA rd pz_M0) H) (hO : va_P D pt_cl (pw_O cA ao g) H) (hl : lv_has ls 9 [(4, .int 0), (3, .ref ao), (2, .ref (rd 0)), (1, .ref (ad 0)), (0, .ref b)])
    (c0 v0 : Int32) (hc : wpVX7_wouldFire (fun X : String => (X = "java/lang/IllegalStateException" ∧ c0 = 1) ∨ (X = "java/lang/IllegalArgumentException" ∧ c0 = 2)) (xs 1) pt_M0 (fun (r : Int32) (_ : pt_M) => c0 = 0 ∧ r = v0)) (hr : wpX12_wouldFire (xs 1) pz_M0 (fun (r : Int32) (M : pt_M) => M 0 0 = c0 ∧ (c0 = 0 → r = v0)))
    (kk : ∀ (H1 : Heap) (locs1 : List Loc) (ls1 : Array Slot), va_S (fun q : Nat => s.heap.size ≤ q) s.heap H1 locs1 → lv_has ls1 9 [(4, .int 0), (0, .ref b)] → W p l e room_1 s m #[Value.ref b] below meth c H1 locs1 600002 7302232 Q (F0 m 1781 ls1 [])) : W p l e room_1 s m #[Value.ref b] below meth c H locs 401 4242 Q (F0 m 1396 ls []) := by
  refine lv_aload_n F.1.1 F.1.2.1 dL_law_1396 rfl (lv_at hl 3 rfl) ?_
  refine lv_aload_n F.1.1 F.1.2.1 dL_law_1397 rfl (lv_at hl 4 rfl) ?_
  refine lv_iload F.1.1 F.1.2.1 dL_law_1398 (lv_at hl 0 rfl) ?_
  refine lv_iconst (v := 1) F.1.1 F.1.2.1 dL_law_1400 (by decide) ?_
  refine lv_iadd F.1.1 F.1.2.1 dL_law_1401 ?_
  refine va_sld F.1.1 F.1.2.1 hX hbl (Nat.not_le.mpr hbl) hS (show vp_in (0 + 1) 6 from by unfold vp_in; decide) dL_law_1402 ?_
  refine W.eq (g2 := F0 m 1403 ls [.int (xs 1), .ref (ad 0)]) rfl ?_
  refine lv_aload_n F.1.1 F.1.2.1 dL_law_1403 rfl (lv_at hl 1 rfl) ?_
  refine va_calli (pw_runS (n := 3) (As := [.ref (ad 0), .int (xs 1), .ref ao]) (rest := []) F (mtL_wouldFire l hst D cA ad K.1 ao g _ (xs 1) pt_M0 c0 v0 hc) pw_blind (fun U hU hW => ⟨⟨by rw [hU], by rw [hU]; exact hP, va_K.moved hW.alike F.2⟩, by rw [hU]; exact px_Z.moved hW.alike ((hZ.kept hS.2.1).narrow (pz_fa K hS.1).1), by rw [hU]; exact hO, K.2.2.2.1, pw_N.moved hW.alike hNc⟩) kw_879 kw_877 kw_51 kw_878 ⟨by decide, by decide, by decide +kernel⟩ ⟨rfl, rfl, (Nat.le_of_ble_eq_true rfl), (Nat.le_of_ble_eq_true rfl)⟩ rfl hl.1 rfl (Nat.le_of_ble_eq_true rfl) dL_law_1404 ⟨(Nat.le_of_ble_eq_true rfl), (Nat.le_of_ble_eq_true rfl)⟩) hS (fun q _ h => (pz_fa K hS.1).1 q h) (pz_fa K hS.1).1 (fun r5 g1 t H1 locs1 ht _ hq5 hB hz ho hS1 => ?_)
  obtain ⟨e5, e5v⟩ := hq5
  replace e5 := e5.symm
  subst e5
  rw [ht] at hB
  replace hPr := pz_r1 K hPr ho
  clear hO hP
  have hO := hB
  clear hB hS
  have hS := hS1
  clear hS1 ho hz
  refine W.widen (k := 403) (n := 4254) (Nat.le_of_ble_eq_true rfl) (Nat.le_of_ble_eq_true rfl) ?_
  refine lv_istore (lv' := [(5, .int c0), (4, .int 0), (3, .ref ao), (2, .ref (rd 0)), (1, .ref (ad 0)), (0, .ref b)]) F.1.1 F.1.2.1 dL_law_1407 hl (by decide) rfl (fun ls hl => ?_)
  refine lv_aload_n F.1.1 F.1.2.1 dL_law_1409 rfl (lv_at hl 3 rfl) ?_
  refine lv_aload_n F.1.1 F.1.2.1 dL_law_1410 rfl (lv_at hl 5 rfl) ?_
  refine lv_iload F.1.1 F.1.2.1 dL_law_1411 (lv_at hl 1 rfl) ?_
  refine lv_iconst (v := 1) F.1.1 F.1.2.1 dL_law_1413 (by decide) ?_
  refine lv_iadd F.1.1 F.1.2.1 dL_law_1414 ?_
  refine va_sld F.1.1 F.1.2.1 hX hbl (Nat.not_le.mpr hbl) hS (show vp_in (0 + 1) 6 from by unfold vp_in; decide) dL_law_1415 ?_
  refine W.eq (g2 := F0 m 1416 ls [.int (xs 1), .ref (rd 0)]) rfl ?_
  refine va_calli (rt_runVm (n := 1) (As := [.int (xs 1)]) (rest := []) F hPr hN hS (pz_fa K hS.1).2.1 (rt_c12 _ rt_k0) (rt_l12 rt_k0) rfl (mtX12_wouldFire l D cA rd K.2.1 _ (xs 1) pz_M0 _ hr) kw_1544 kw_1541 kw_60 kw_1542 kw_1543 ⟨by decide, by decide, by decide +kernel⟩ ⟨rfl, rfl, (Nat.le_of_ble_eq_true rfl), (Nat.le_of_ble_eq_true rfl)⟩ rfl hl.1 rfl (Nat.le_of_ble_eq_true rfl) dL_law_1416 ⟨(Nat.le_of_ble_eq_true rfl), (Nat.le_of_ble_eq_true rfl)⟩) hS (fun q _ h => (pz_fa K hS.1).2.1 q h) (pz_fa K hS.1).2.1 (fun r6 M1 t H1 locs1 ht _ hq hB hz ho hS1 => ?_)
  replace hO := pz_o1 K hO ho
  have hT : va_P D pt_cl [(rd 0, .inr (12, [.int (M1 0 0), .ref (rd 1), .ref (rd 6), .ref (rd 12), .int (M1 0 4)]))] H1 := by rw [← ht]; exact va_P.sub hB [0] rfl
  clear hS
  have hS := hS1
  clear hS1 ho hz hPr
  refine lv_istore (lv' := [(6, .int r6), (5, .int c0), (4, .int 0), (3, .ref ao), (2, .ref (rd 0)), (1, .ref (ad 0)), (0, .ref b)]) F.1.1 F.1.2.1 dL_law_1419 hl (by decide) rfl (fun ls hl => ?_)
  refine lv_aload_n F.1.1 F.1.2.1 dL_law_1421 rfl (lv_at hl 4 rfl) ?_
  refine va_calli (sx_runV (n := 0) (As := []) (rest := []) F hT 0 rfl rfl (mtTH0 l D cA (rd 0) (M1 0 0) (.ref (rd 1)) (.ref (rd 6)) (.ref (rd 12)) (.int (M1 0 4))) pz_thblind (fun U hU hW => ⟨by rw [hU]; exact hT, va_K.moved hW.alike F.2⟩) kw_1159 kw_1156 kw_60 kw_1157 kw_1158 ⟨by decide, by decide, by decide +kernel⟩ ⟨rfl, rfl, (Nat.le_of_ble_eq_true rfl), (Nat.le_of_ble_eq_true rfl)⟩ rfl hl.1 rfl (Nat.le_of_ble_eq_true rfl) dL_law_1422 ⟨(Nat.le_of_ble_eq_true rfl), (Nat.le_of_ble_eq_true rfl)⟩) hS (fun _ _ h => h.elim) (fun _ h => h.elim) (fun r7 _ t H1 locs1 ht _ e7 _ hz ho hS1 => ?_)
  replace e7 := (e7.trans hq.1).symm
  subst e7
  replace hO := pz_keep hO (fun _ _ _ _ h => h) ho
  clear hS
  have hS := hS1
  clear hS1 ho hz
  refine lv_iload F.1.1 F.1.2.1 dL_law_1425 (lv_at hl 1 rfl) ?_
  refine lv_icmp_eq (tgt := 1432) F.1.1 F.1.2.1 dL_law_1427 (by decide) (fun _ => ?_) (fun hc => absurd rfl hc)
  refine lv_iload F.1.1 F.1.2.1 dL_law_1432 (lv_at hl 1 rfl) ?_
  refine lv_if_ne (tgt := 1449) F.1.1 F.1.2.1 dL_law_1434 (by decide) (fun hc => ?_) (fun hc => ?_)
  · refine lv_goto (tgt := 1781) F.1.1 F.1.2.1 dL_law_1449 (by decide) ?_
    refine W.widen (k := 600002) (n := 7302232) (Nat.le_of_ble_eq_true rfl) (Nat.le_of_ble_eq_true rfl) ?_
    exact kk _ _ _ hS (lv_sub hl [2, 6] rfl)
  · have hc0 : c0 = 0 := hc
    refine lv_aload_n F.1.1 F.1.2.1 dL_law_1437 rfl (lv_at hl 3 rfl) ?_
    refine lv_iconst (v := 0) F.1.1 F.1.2.1 dL_law_1438 (by decide) ?_
    refine va_lald F.1.1 F.1.2.1 F.2 hO 0 6 rfl rfl (show vp_in 0 1 from by unfold vp_in; decide) dL_law_1439 ?_
    refine W.eq (g2 := F0 m 1440 ls [.long (g1 0)]) rfl ?_
    refine lv_iload F.1.1 F.1.2.1 dL_law_1440 (lv_at hl 0 rfl) ?_
    refine lv_i2l (v := r6.toInt64) F.1.1 F.1.2.1 dL_law_1442 rfl ?_
    refine W.lcmp F.1.1 F.1.2.1 dL_law_1443 ?_
    refine lv_topi (fun r_1443 er_1443 => ?_)
    refine lv_if_eq (tgt := 1449) F.1.1 F.1.2.1 dL_law_1444 (by decide) (fun _ => ?_) (fun hc => absurd (by rw [er_1443, e5v hc0, hq.2 hc0]; exact pz_cmp _) hc)
    refine lv_goto (tgt := 1781) F.1.1 F.1.2.1 dL_law_1449 (by decide) ?_
    refine W.widen (k := 600002) (n := 7302232) (Nat.le_of_ble_eq_true rfl) (Nat.le_of_ble_eq_true rfl) ?_
    exact kk _ _ _ hS (lv_sub hl [2, 6] rfl)
-- ===== case 26: wouldBe
set_option maxHeartbeats 8000000 in
set_option maxRecDepth 100000 in
theorem lc_26 {p : Program} {e : Env} {s : State} {m : MethodId} {below : List Frame} {meth : Method} {c : Code} (l : Launch) (hst : l.stackTraces = false) {b : Nat} {xs : Nat → Int32} {D : va_G} {cA : Nat → ClassId} {ad rd : Nat → Nat} {ao : Nat} {g : Nat → Int64} {H : Heap} {locs : List Loc} {Q : State → Prop} {ls : Array Slot}
    (F : pt_F p m c code 9 s #[Value.ref b] RL D cA) (hbl : b < s.heap.size) (hX : va_X b 6 xs s s.heap) (hZ : px_Z (fun q : Nat => s.heap.size ≤ q) s s.heap) (hN : rt_Zs (rd 13) (rd 14) (fun q : Nat => s.heap.size ≤ q) s s.heap) (hNc : pw_N s) (K : pz_K ad rd ao s.heap.size) (hS : va_S (fun q : Nat => s.heap.size ≤ q) s.heap H locs)
    (hP : va_P D pt_cl (pt_W cA ad pt_M0) H) (hPr : va_P D pt_cl (rt_W cA rd pz_M0) H) (hO : va_P D pt_cl (pw_O cA ao g) H) (hl : lv_has ls 9 [(4, .int 0), (3, .ref ao), (2, .ref (rd 0)), (1, .ref (ad 0)), (0, .ref b)])
    (c0 v0 : Int32) (hc : wpVX7_wouldBe (fun X : String => (X = "java/lang/IllegalStateException" ∧ c0 = 1) ∨ (X = "java/lang/IllegalArgumentException" ∧ c0 = 2)) (xs 1) pt_M0 (fun (r : Int32) (_ : pt_M) => c0 = 0 ∧ r = v0)) (hr : wpX12_wouldBe (xs 1) pz_M0 (fun (r : Int32) (M : pt_M) => M 0 0 = c0 ∧ (c0 = 0 → r = v0)))
    (kk : ∀ (H1 : Heap) (locs1 : List Loc) (ls1 : Array Slot), va_S (fun q : Nat => s.heap.size ≤ q) s.heap H1 locs1 → lv_has ls1 9 [(4, .int 0), (0, .ref b)] → W p l e room_1 s m #[Value.ref b] below meth c H1 locs1 600002 7302232 Q (F0 m 1781 ls1 [])) : W p l e room_1 s m #[Value.ref b] below meth c H locs 401 4242 Q (F0 m 1452 ls []) := by
  refine lv_aload_n F.1.1 F.1.2.1 dL_law_1452 rfl (lv_at hl 3 rfl) ?_
  refine lv_aload_n F.1.1 F.1.2.1 dL_law_1453 rfl (lv_at hl 4 rfl) ?_
  refine lv_iload F.1.1 F.1.2.1 dL_law_1454 (lv_at hl 0 rfl) ?_
  refine lv_iconst (v := 1) F.1.1 F.1.2.1 dL_law_1456 (by decide) ?_
  refine lv_iadd F.1.1 F.1.2.1 dL_law_1457 ?_
  refine va_sld F.1.1 F.1.2.1 hX hbl (Nat.not_le.mpr hbl) hS (show vp_in (0 + 1) 6 from by unfold vp_in; decide) dL_law_1458 ?_
  refine W.eq (g2 := F0 m 1459 ls [.int (xs 1), .ref (ad 0)]) rfl ?_
  refine lv_aload_n F.1.1 F.1.2.1 dL_law_1459 rfl (lv_at hl 1 rfl) ?_
  refine va_calli (pw_runS (n := 3) (As := [.ref (ad 0), .int (xs 1), .ref ao]) (rest := []) F (mtL_wouldBe l hst D cA ad K.1 ao g _ (xs 1) pt_M0 c0 v0 hc) pw_blind (fun U hU hW => ⟨⟨by rw [hU], by rw [hU]; exact hP, va_K.moved hW.alike F.2⟩, by rw [hU]; exact px_Z.moved hW.alike ((hZ.kept hS.2.1).narrow (pz_fa K hS.1).1), by rw [hU]; exact hO, K.2.2.2.1, pw_N.moved hW.alike hNc⟩) kw_893 kw_891 kw_51 kw_892 ⟨by decide, by decide, by decide +kernel⟩ ⟨rfl, rfl, (Nat.le_of_ble_eq_true rfl), (Nat.le_of_ble_eq_true rfl)⟩ rfl hl.1 rfl (Nat.le_of_ble_eq_true rfl) dL_law_1460 ⟨(Nat.le_of_ble_eq_true rfl), (Nat.le_of_ble_eq_true rfl)⟩) hS (fun q _ h => (pz_fa K hS.1).1 q h) (pz_fa K hS.1).1 (fun r5 g1 t H1 locs1 ht _ hq5 hB hz ho hS1 => ?_)
  obtain ⟨e5, e5v⟩ := hq5
  replace e5 := e5.symm
  subst e5
  rw [ht] at hB
  replace hPr := pz_r1 K hPr ho
  clear hO hP
  have hO := hB
  clear hB hS
  have hS := hS1
  clear hS1 ho hz
  refine W.widen (k := 403) (n := 4254) (Nat.le_of_ble_eq_true rfl) (Nat.le_of_ble_eq_true rfl) ?_
  refine lv_istore (lv' := [(5, .int c0), (4, .int 0), (3, .ref ao), (2, .ref (rd 0)), (1, .ref (ad 0)), (0, .ref b)]) F.1.1 F.1.2.1 dL_law_1463 hl (by decide) rfl (fun ls hl => ?_)
  refine lv_aload_n F.1.1 F.1.2.1 dL_law_1465 rfl (lv_at hl 3 rfl) ?_
  refine lv_aload_n F.1.1 F.1.2.1 dL_law_1466 rfl (lv_at hl 5 rfl) ?_
  refine lv_iload F.1.1 F.1.2.1 dL_law_1467 (lv_at hl 1 rfl) ?_
  refine lv_iconst (v := 1) F.1.1 F.1.2.1 dL_law_1469 (by decide) ?_
  refine lv_iadd F.1.1 F.1.2.1 dL_law_1470 ?_
  refine va_sld F.1.1 F.1.2.1 hX hbl (Nat.not_le.mpr hbl) hS (show vp_in (0 + 1) 6 from by unfold vp_in; decide) dL_law_1471 ?_
  refine W.eq (g2 := F0 m 1472 ls [.int (xs 1), .ref (rd 0)]) rfl ?_
  refine va_calli (rt_runVm (n := 1) (As := [.int (xs 1)]) (rest := []) F hPr hN hS (pz_fa K hS.1).2.1 (rt_c12 _ rt_k0) (rt_l12 rt_k0) rfl (mtX12_wouldBe l D cA rd K.2.1 _ (xs 1) pz_M0 _ hr) kw_1583 kw_1580 kw_60 kw_1581 kw_1582 ⟨by decide, by decide, by decide +kernel⟩ ⟨rfl, rfl, (Nat.le_of_ble_eq_true rfl), (Nat.le_of_ble_eq_true rfl)⟩ rfl hl.1 rfl (Nat.le_of_ble_eq_true rfl) dL_law_1472 ⟨(Nat.le_of_ble_eq_true rfl), (Nat.le_of_ble_eq_true rfl)⟩) hS (fun q _ h => (pz_fa K hS.1).2.1 q h) (pz_fa K hS.1).2.1 (fun r6 M1 t H1 locs1 ht _ hq hB hz ho hS1 => ?_)
  replace hO := pz_o1 K hO ho
  have hT : va_P D pt_cl [(rd 0, .inr (12, [.int (M1 0 0), .ref (rd 1), .ref (rd 6), .ref (rd 12), .int (M1 0 4)]))] H1 := by rw [← ht]; exact va_P.sub hB [0] rfl
  clear hS
  have hS := hS1
  clear hS1 ho hz hPr
  refine lv_istore (lv' := [(6, .int r6), (5, .int c0), (4, .int 0), (3, .ref ao), (2, .ref (rd 0)), (1, .ref (ad 0)), (0, .ref b)]) F.1.1 F.1.2.1 dL_law_1475 hl (by decide) rfl (fun ls hl => ?_)
  refine lv_aload_n F.1.1 F.1.2.1 dL_law_1477 rfl (lv_at hl 4 rfl) ?_
  refine va_calli (sx_runV (n := 0) (As := []) (rest := []) F hT 0 rfl rfl (mtTH0 l D cA (rd 0) (M1 0 0) (.ref (rd 1)) (.ref (rd 6)) (.ref (rd 12)) (.int (M1 0 4))) pz_thblind (fun U hU hW => ⟨by rw [hU]; exact hT, va_K.moved hW.alike F.2⟩) kw_1159 kw_1156 kw_60 kw_1157 kw_1158 ⟨by decide, by decide, by decide +kernel⟩ ⟨rfl, rfl, (Nat.le_of_ble_eq_true rfl), (Nat.le_of_ble_eq_true rfl)⟩ rfl hl.1 rfl (Nat.le_of_ble_eq_true rfl) dL_law_1478 ⟨(Nat.le_of_ble_eq_true rfl), (Nat.le_of_ble_eq_true rfl)⟩) hS (fun _ _ h => h.elim) (fun _ h => h.elim) (fun r7 _ t H1 locs1 ht _ e7 _ hz ho hS1 => ?_)
  replace e7 := (e7.trans hq.1).symm
  subst e7
  replace hO := pz_keep hO (fun _ _ _ _ h => h) ho
  clear hS
  have hS := hS1
  clear hS1 ho hz
  refine lv_iload F.1.1 F.1.2.1 dL_law_1481 (lv_at hl 1 rfl) ?_
  refine lv_icmp_eq (tgt := 1488) F.1.1 F.1.2.1 dL_law_1483 (by decide) (fun _ => ?_) (fun hc => absurd rfl hc)
  refine lv_iload F.1.1 F.1.2.1 dL_law_1488 (lv_at hl 1 rfl) ?_
  refine lv_if_ne (tgt := 1505) F.1.1 F.1.2.1 dL_law_1490 (by decide) (fun hc => ?_) (fun hc => ?_)
  · refine lv_goto (tgt := 1781) F.1.1 F.1.2.1 dL_law_1505 (by decide) ?_
    refine W.widen (k := 600002) (n := 7302232) (Nat.le_of_ble_eq_true rfl) (Nat.le_of_ble_eq_true rfl) ?_
    exact kk _ _ _ hS (lv_sub hl [2, 6] rfl)
  · have hc0 : c0 = 0 := hc
    refine lv_aload_n F.1.1 F.1.2.1 dL_law_1493 rfl (lv_at hl 3 rfl) ?_
    refine lv_iconst (v := 0) F.1.1 F.1.2.1 dL_law_1494 (by decide) ?_
    refine va_lald F.1.1 F.1.2.1 F.2 hO 0 6 rfl rfl (show vp_in 0 1 from by unfold vp_in; decide) dL_law_1495 ?_
    refine W.eq (g2 := F0 m 1496 ls [.long (g1 0)]) rfl ?_
    refine lv_iload F.1.1 F.1.2.1 dL_law_1496 (lv_at hl 0 rfl) ?_
    refine lv_i2l (v := r6.toInt64) F.1.1 F.1.2.1 dL_law_1498 rfl ?_
    refine W.lcmp F.1.1 F.1.2.1 dL_law_1499 ?_
    refine lv_topi (fun r_1499 er_1499 => ?_)
    refine lv_if_eq (tgt := 1505) F.1.1 F.1.2.1 dL_law_1500 (by decide) (fun _ => ?_) (fun hc => absurd (by rw [er_1499, e5v hc0, hq.2 hc0]; exact pz_cmp _) hc)
    refine lv_goto (tgt := 1781) F.1.1 F.1.2.1 dL_law_1505 (by decide) ?_
    refine W.widen (k := 600002) (n := 7302232) (Nat.le_of_ble_eq_true rfl) (Nat.le_of_ble_eq_true rfl) ?_
    exact kk _ _ _ hS (lv_sub hl [2, 6] rfl)
-- ===== case 27: open
set_option maxHeartbeats 8000000 in
set_option maxRecDepth 100000 in
theorem lc_27 {p : Program} {e : Env} {s : State} {m : MethodId} {below : List Frame} {meth : Method} {c : Code} (l : Launch) (hst : l.stackTraces = false) {b : Nat} {xs : Nat → Int32} {D : va_G} {cA : Nat → ClassId} {ad rd : Nat → Nat} {ao : Nat} {g : Nat → Int64} {H : Heap} {locs : List Loc} {Q : State → Prop} {ls : Array Slot}
    (F : pt_F p m c code 9 s #[Value.ref b] RL D cA) (hbl : b < s.heap.size) (hX : va_X b 6 xs s s.heap) (hZ : px_Z (fun q : Nat => s.heap.size ≤ q) s s.heap) (hN : rt_Zs (rd 13) (rd 14) (fun q : Nat => s.heap.size ≤ q) s s.heap) (hNc : pw_N s) (K : pz_K ad rd ao s.heap.size) (hS : va_S (fun q : Nat => s.heap.size ≤ q) s.heap H locs)
    (hP : va_P D pt_cl (pt_W cA ad pt_M0) H) (hPr : va_P D pt_cl (rt_W cA rd pz_M0) H) (hO : va_P D pt_cl (pw_O cA ao g) H) (hl : lv_has ls 9 [(4, .int 0), (3, .ref ao), (2, .ref (rd 0)), (1, .ref (ad 0)), (0, .ref b)])
    (c0 v0 : Int32) (hc : wpVX7_open (fun X : String => (X = "java/lang/IllegalStateException" ∧ c0 = 1)) pt_M0 (fun (r : Int32) (_ : pt_M) => c0 = 0 ∧ r = v0)) (hr : wpX12_open pz_M0 (fun (r : Int32) (M : pt_M) => M 0 0 = c0 ∧ (c0 = 0 → r = v0)))
    (kk : ∀ (H1 : Heap) (locs1 : List Loc) (ls1 : Array Slot), va_S (fun q : Nat => s.heap.size ≤ q) s.heap H1 locs1 → lv_has ls1 9 [(4, .int 0), (0, .ref b)] → W p l e room_1 s m #[Value.ref b] below meth c H1 locs1 600002 7302232 Q (F0 m 1781 ls1 [])) : W p l e room_1 s m #[Value.ref b] below meth c H locs 401 4242 Q (F0 m 1508 ls []) := by
  refine lv_aload_n F.1.1 F.1.2.1 dL_law_1508 rfl (lv_at hl 3 rfl) ?_
  refine lv_aload_n F.1.1 F.1.2.1 dL_law_1509 rfl (lv_at hl 1 rfl) ?_
  refine va_calli (pw_runS (n := 2) (As := [.ref (ad 0), .ref ao]) (rest := []) F (mtL_open l hst D cA ad K.1 ao g _ pt_M0 c0 v0 hc) pw_blind (fun U hU hW => ⟨⟨by rw [hU], by rw [hU]; exact hP, va_K.moved hW.alike F.2⟩, by rw [hU]; exact px_Z.moved hW.alike ((hZ.kept hS.2.1).narrow (pz_fa K hS.1).1), by rw [hU]; exact hO, K.2.2.2.1, pw_N.moved hW.alike hNc⟩) kw_900 kw_898 kw_51 kw_899 ⟨by decide, by decide, by decide +kernel⟩ ⟨rfl, rfl, (Nat.le_of_ble_eq_true rfl), (Nat.le_of_ble_eq_true rfl)⟩ rfl hl.1 rfl (Nat.le_of_ble_eq_true rfl) dL_law_1510 ⟨(Nat.le_of_ble_eq_true rfl), (Nat.le_of_ble_eq_true rfl)⟩) hS (fun q _ h => (pz_fa K hS.1).1 q h) (pz_fa K hS.1).1 (fun r5 g1 t H1 locs1 ht _ hq5 hB hz ho hS1 => ?_)
  obtain ⟨e5, e5v⟩ := hq5
  replace e5 := e5.symm
  subst e5
  rw [ht] at hB
  replace hPr := pz_r1 K hPr ho
  clear hO hP
  have hO := hB
  clear hB hS
  have hS := hS1
  clear hS1 ho hz
  refine W.widen (k := 402) (n := 4248) (Nat.le_of_ble_eq_true rfl) (Nat.le_of_ble_eq_true rfl) ?_
  refine lv_istore (lv' := [(5, .int c0), (4, .int 0), (3, .ref ao), (2, .ref (rd 0)), (1, .ref (ad 0)), (0, .ref b)]) F.1.1 F.1.2.1 dL_law_1513 hl (by decide) rfl (fun ls hl => ?_)
  refine lv_aload_n F.1.1 F.1.2.1 dL_law_1515 rfl (lv_at hl 3 rfl) ?_
  refine va_calli (rt_runVm (n := 0) (As := []) (rest := []) F hPr hN hS (pz_fa K hS.1).2.1 (rt_c12 _ rt_k0) (rt_l12 rt_k0) rfl (mtX12_open l D cA rd K.2.1 _ pz_M0 _ hr) kw_1587 kw_1584 kw_60 kw_1585 kw_1586 ⟨by decide, by decide, by decide +kernel⟩ ⟨rfl, rfl, (Nat.le_of_ble_eq_true rfl), (Nat.le_of_ble_eq_true rfl)⟩ rfl hl.1 rfl (Nat.le_of_ble_eq_true rfl) dL_law_1516 ⟨(Nat.le_of_ble_eq_true rfl), (Nat.le_of_ble_eq_true rfl)⟩) hS (fun q _ h => (pz_fa K hS.1).2.1 q h) (pz_fa K hS.1).2.1 (fun r6 M1 t H1 locs1 ht _ hq hB hz ho hS1 => ?_)
  replace hO := pz_o1 K hO ho
  have hT : va_P D pt_cl [(rd 0, .inr (12, [.int (M1 0 0), .ref (rd 1), .ref (rd 6), .ref (rd 12), .int (M1 0 4)]))] H1 := by rw [← ht]; exact va_P.sub hB [0] rfl
  clear hS
  have hS := hS1
  clear hS1 ho hz hPr
  refine lv_istore (lv' := [(6, .int r6), (5, .int c0), (4, .int 0), (3, .ref ao), (2, .ref (rd 0)), (1, .ref (ad 0)), (0, .ref b)]) F.1.1 F.1.2.1 dL_law_1519 hl (by decide) rfl (fun ls hl => ?_)
  refine lv_aload_n F.1.1 F.1.2.1 dL_law_1521 rfl (lv_at hl 4 rfl) ?_
  refine va_calli (sx_runV (n := 0) (As := []) (rest := []) F hT 0 rfl rfl (mtTH0 l D cA (rd 0) (M1 0 0) (.ref (rd 1)) (.ref (rd 6)) (.ref (rd 12)) (.int (M1 0 4))) pz_thblind (fun U hU hW => ⟨by rw [hU]; exact hT, va_K.moved hW.alike F.2⟩) kw_1159 kw_1156 kw_60 kw_1157 kw_1158 ⟨by decide, by decide, by decide +kernel⟩ ⟨rfl, rfl, (Nat.le_of_ble_eq_true rfl), (Nat.le_of_ble_eq_true rfl)⟩ rfl hl.1 rfl (Nat.le_of_ble_eq_true rfl) dL_law_1522 ⟨(Nat.le_of_ble_eq_true rfl), (Nat.le_of_ble_eq_true rfl)⟩) hS (fun _ _ h => h.elim) (fun _ h => h.elim) (fun r7 _ t H1 locs1 ht _ e7 _ hz ho hS1 => ?_)
  replace e7 := (e7.trans hq.1).symm
  subst e7
  replace hO := pz_keep hO (fun _ _ _ _ h => h) ho
  clear hS
  have hS := hS1
  clear hS1 ho hz
  refine lv_iload F.1.1 F.1.2.1 dL_law_1525 (lv_at hl 1 rfl) ?_
  refine lv_icmp_eq (tgt := 1532) F.1.1 F.1.2.1 dL_law_1527 (by decide) (fun _ => ?_) (fun hc => absurd rfl hc)
  refine lv_iload F.1.1 F.1.2.1 dL_law_1532 (lv_at hl 1 rfl) ?_
  refine lv_if_ne (tgt := 1549) F.1.1 F.1.2.1 dL_law_1534 (by decide) (fun hc => ?_) (fun hc => ?_)
  · refine lv_goto (tgt := 1781) F.1.1 F.1.2.1 dL_law_1549 (by decide) ?_
    refine W.widen (k := 600002) (n := 7302232) (Nat.le_of_ble_eq_true rfl) (Nat.le_of_ble_eq_true rfl) ?_
    exact kk _ _ _ hS (lv_sub hl [2, 6] rfl)
  · have hc0 : c0 = 0 := hc
    refine lv_aload_n F.1.1 F.1.2.1 dL_law_1537 rfl (lv_at hl 3 rfl) ?_
    refine lv_iconst (v := 0) F.1.1 F.1.2.1 dL_law_1538 (by decide) ?_
    refine va_lald F.1.1 F.1.2.1 F.2 hO 0 6 rfl rfl (show vp_in 0 1 from by unfold vp_in; decide) dL_law_1539 ?_
    refine W.eq (g2 := F0 m 1540 ls [.long (g1 0)]) rfl ?_
    refine lv_iload F.1.1 F.1.2.1 dL_law_1540 (lv_at hl 0 rfl) ?_
    refine lv_i2l (v := r6.toInt64) F.1.1 F.1.2.1 dL_law_1542 rfl ?_
    refine W.lcmp F.1.1 F.1.2.1 dL_law_1543 ?_
    refine lv_topi (fun r_1543 er_1543 => ?_)
    refine lv_if_eq (tgt := 1549) F.1.1 F.1.2.1 dL_law_1544 (by decide) (fun _ => ?_) (fun hc => absurd (by rw [er_1543, e5v hc0, hq.2 hc0]; exact pz_cmp _) hc)
    refine lv_goto (tgt := 1781) F.1.1 F.1.2.1 dL_law_1549 (by decide) ?_
    refine W.widen (k := 600002) (n := 7302232) (Nat.le_of_ble_eq_true rfl) (Nat.le_of_ble_eq_true rfl) ?_
    exact kk _ _ _ hS (lv_sub hl [2, 6] rfl)
-- ===== case 28: rowTo
set_option maxHeartbeats 8000000 in
set_option maxRecDepth 100000 in
theorem lc_28 {p : Program} {e : Env} {s : State} {m : MethodId} {below : List Frame} {meth : Method} {c : Code} (l : Launch) (hst : l.stackTraces = false) {b : Nat} {xs : Nat → Int32} {D : va_G} {cA : Nat → ClassId} {ad rd : Nat → Nat} {ao : Nat} {g : Nat → Int64} {H : Heap} {locs : List Loc} {Q : State → Prop} {ls : Array Slot}
    (F : pt_F p m c code 9 s #[Value.ref b] RL D cA) (hbl : b < s.heap.size) (hX : va_X b 6 xs s s.heap) (hZ : px_Z (fun q : Nat => s.heap.size ≤ q) s s.heap) (hN : rt_Zs (rd 13) (rd 14) (fun q : Nat => s.heap.size ≤ q) s s.heap) (hNc : pw_N s) (K : pz_K ad rd ao s.heap.size) (hS : va_S (fun q : Nat => s.heap.size ≤ q) s.heap H locs)
    (hP : va_P D pt_cl (pt_W cA ad pt_M0) H) (hPr : va_P D pt_cl (rt_W cA rd pz_M0) H) (hO : va_P D pt_cl (pw_O cA ao g) H) (hl : lv_has ls 9 [(4, .int 0), (3, .ref ao), (2, .ref (rd 0)), (1, .ref (ad 0)), (0, .ref b)])
    (c0 v0 : Int32) (hc : wpVX7_rowTo (fun X : String => (X = "java/lang/IllegalStateException" ∧ c0 = 1) ∨ (X = "java/lang/IndexOutOfBoundsException" ∧ c0 = 2) ∨ (X = "java/lang/IllegalArgumentException" ∧ c0 = 3)) (xs 1) (xs 2) pt_M0 (fun (r : Int32) (_ : pt_M) => c0 = 0 ∧ r = v0)) (hr : wpX12_rowTo (xs 1) (xs 2) pz_M0 (fun (r : Int32) (M : pt_M) => M 0 0 = c0 ∧ (c0 = 0 → r = v0)))
    (kk : ∀ (H1 : Heap) (locs1 : List Loc) (ls1 : Array Slot), va_S (fun q : Nat => s.heap.size ≤ q) s.heap H1 locs1 → lv_has ls1 9 [(4, .int 0), (0, .ref b)] → W p l e room_1 s m #[Value.ref b] below meth c H1 locs1 600002 7302232 Q (F0 m 1781 ls1 [])) : W p l e room_1 s m #[Value.ref b] below meth c H locs 401 4242 Q (F0 m 1552 ls []) := by
  refine lv_aload_n F.1.1 F.1.2.1 dL_law_1552 rfl (lv_at hl 3 rfl) ?_
  refine lv_aload_n F.1.1 F.1.2.1 dL_law_1553 rfl (lv_at hl 4 rfl) ?_
  refine lv_iload F.1.1 F.1.2.1 dL_law_1554 (lv_at hl 0 rfl) ?_
  refine lv_iconst (v := 1) F.1.1 F.1.2.1 dL_law_1556 (by decide) ?_
  refine lv_iadd F.1.1 F.1.2.1 dL_law_1557 ?_
  refine va_sld F.1.1 F.1.2.1 hX hbl (Nat.not_le.mpr hbl) hS (show vp_in (0 + 1) 6 from by unfold vp_in; decide) dL_law_1558 ?_
  refine W.eq (g2 := F0 m 1559 ls [.int (xs 1), .ref (ad 0)]) rfl ?_
  refine lv_aload_n F.1.1 F.1.2.1 dL_law_1559 rfl (lv_at hl 4 rfl) ?_
  refine lv_iload F.1.1 F.1.2.1 dL_law_1560 (lv_at hl 0 rfl) ?_
  refine lv_iconst (v := 2) F.1.1 F.1.2.1 dL_law_1562 (by decide) ?_
  refine lv_iadd F.1.1 F.1.2.1 dL_law_1563 ?_
  refine va_sld F.1.1 F.1.2.1 hX hbl (Nat.not_le.mpr hbl) hS (show vp_in (0 + 2) 6 from by unfold vp_in; decide) dL_law_1564 ?_
  refine W.eq (g2 := F0 m 1565 ls [.int (xs 2), .int (xs 1), .ref (ad 0)]) rfl ?_
  refine lv_aload_n F.1.1 F.1.2.1 dL_law_1565 rfl (lv_at hl 1 rfl) ?_
  refine va_calli (pw_runS (n := 4) (As := [.ref (ad 0), .int (xs 1), .int (xs 2), .ref ao]) (rest := []) F (mtL_rowTo l hst D cA ad K.1 ao g _ (xs 1) (xs 2) pt_M0 c0 v0 hc) pw_blind (fun U hU hW => ⟨⟨by rw [hU], by rw [hU]; exact hP, va_K.moved hW.alike F.2⟩, by rw [hU]; exact px_Z.moved hW.alike ((hZ.kept hS.2.1).narrow (pz_fa K hS.1).1), by rw [hU]; exact hO, K.2.2.2.1, pw_N.moved hW.alike hNc⟩) kw_908 kw_906 kw_51 kw_907 ⟨by decide, by decide, by decide +kernel⟩ ⟨rfl, rfl, (Nat.le_of_ble_eq_true rfl), (Nat.le_of_ble_eq_true rfl)⟩ rfl hl.1 rfl (Nat.le_of_ble_eq_true rfl) dL_law_1566 ⟨(Nat.le_of_ble_eq_true rfl), (Nat.le_of_ble_eq_true rfl)⟩) hS (fun q _ h => (pz_fa K hS.1).1 q h) (pz_fa K hS.1).1 (fun r5 g1 t H1 locs1 ht _ hq5 hB hz ho hS1 => ?_)
  obtain ⟨e5, e5v⟩ := hq5
  replace e5 := e5.symm
  subst e5
  rw [ht] at hB
  replace hPr := pz_r1 K hPr ho
  clear hO hP
  have hO := hB
  clear hB hS
  have hS := hS1
  clear hS1 ho hz
  refine W.widen (k := 404) (n := 4260) (Nat.le_of_ble_eq_true rfl) (Nat.le_of_ble_eq_true rfl) ?_
  refine lv_istore (lv' := [(5, .int c0), (4, .int 0), (3, .ref ao), (2, .ref (rd 0)), (1, .ref (ad 0)), (0, .ref b)]) F.1.1 F.1.2.1 dL_law_1569 hl (by decide) rfl (fun ls hl => ?_)
  refine lv_aload_n F.1.1 F.1.2.1 dL_law_1571 rfl (lv_at hl 3 rfl) ?_
  refine lv_aload_n F.1.1 F.1.2.1 dL_law_1572 rfl (lv_at hl 5 rfl) ?_
  refine lv_iload F.1.1 F.1.2.1 dL_law_1573 (lv_at hl 1 rfl) ?_
  refine lv_iconst (v := 1) F.1.1 F.1.2.1 dL_law_1575 (by decide) ?_
  refine lv_iadd F.1.1 F.1.2.1 dL_law_1576 ?_
  refine va_sld F.1.1 F.1.2.1 hX hbl (Nat.not_le.mpr hbl) hS (show vp_in (0 + 1) 6 from by unfold vp_in; decide) dL_law_1577 ?_
  refine W.eq (g2 := F0 m 1578 ls [.int (xs 1), .ref (rd 0)]) rfl ?_
  refine lv_aload_n F.1.1 F.1.2.1 dL_law_1578 rfl (lv_at hl 5 rfl) ?_
  refine lv_iload F.1.1 F.1.2.1 dL_law_1579 (lv_at hl 1 rfl) ?_
  refine lv_iconst (v := 2) F.1.1 F.1.2.1 dL_law_1581 (by decide) ?_
  refine lv_iadd F.1.1 F.1.2.1 dL_law_1582 ?_
  refine va_sld F.1.1 F.1.2.1 hX hbl (Nat.not_le.mpr hbl) hS (show vp_in (0 + 2) 6 from by unfold vp_in; decide) dL_law_1583 ?_
  refine W.eq (g2 := F0 m 1584 ls [.int (xs 2), .int (xs 1), .ref (rd 0)]) rfl ?_
  refine va_calli (rt_runVm (n := 2) (As := [.int (xs 1), .int (xs 2)]) (rest := []) F hPr hN hS (pz_fa K hS.1).2.1 (rt_c12 _ rt_k0) (rt_l12 rt_k0) rfl (mtX12_rowTo l D cA rd K.2.1 _ (xs 1) (xs 2) pz_M0 _ hr) kw_1592 kw_1589 kw_60 kw_1590 kw_1591 ⟨by decide, by decide, by decide +kernel⟩ ⟨rfl, rfl, (Nat.le_of_ble_eq_true rfl), (Nat.le_of_ble_eq_true rfl)⟩ rfl hl.1 rfl (Nat.le_of_ble_eq_true rfl) dL_law_1584 ⟨(Nat.le_of_ble_eq_true rfl), (Nat.le_of_ble_eq_true rfl)⟩) hS (fun q _ h => (pz_fa K hS.1).2.1 q h) (pz_fa K hS.1).2.1 (fun r6 M1 t H1 locs1 ht _ hq hB hz ho hS1 => ?_)
  replace hO := pz_o1 K hO ho
  have hT : va_P D pt_cl [(rd 0, .inr (12, [.int (M1 0 0), .ref (rd 1), .ref (rd 6), .ref (rd 12), .int (M1 0 4)]))] H1 := by rw [← ht]; exact va_P.sub hB [0] rfl
  clear hS
  have hS := hS1
  clear hS1 ho hz hPr
  refine lv_istore (lv' := [(6, .int r6), (5, .int c0), (4, .int 0), (3, .ref ao), (2, .ref (rd 0)), (1, .ref (ad 0)), (0, .ref b)]) F.1.1 F.1.2.1 dL_law_1587 hl (by decide) rfl (fun ls hl => ?_)
  refine lv_aload_n F.1.1 F.1.2.1 dL_law_1589 rfl (lv_at hl 4 rfl) ?_
  refine va_calli (sx_runV (n := 0) (As := []) (rest := []) F hT 0 rfl rfl (mtTH0 l D cA (rd 0) (M1 0 0) (.ref (rd 1)) (.ref (rd 6)) (.ref (rd 12)) (.int (M1 0 4))) pz_thblind (fun U hU hW => ⟨by rw [hU]; exact hT, va_K.moved hW.alike F.2⟩) kw_1159 kw_1156 kw_60 kw_1157 kw_1158 ⟨by decide, by decide, by decide +kernel⟩ ⟨rfl, rfl, (Nat.le_of_ble_eq_true rfl), (Nat.le_of_ble_eq_true rfl)⟩ rfl hl.1 rfl (Nat.le_of_ble_eq_true rfl) dL_law_1590 ⟨(Nat.le_of_ble_eq_true rfl), (Nat.le_of_ble_eq_true rfl)⟩) hS (fun _ _ h => h.elim) (fun _ h => h.elim) (fun r7 _ t H1 locs1 ht _ e7 _ hz ho hS1 => ?_)
  replace e7 := (e7.trans hq.1).symm
  subst e7
  replace hO := pz_keep hO (fun _ _ _ _ h => h) ho
  clear hS
  have hS := hS1
  clear hS1 ho hz
  refine lv_iload F.1.1 F.1.2.1 dL_law_1593 (lv_at hl 1 rfl) ?_
  refine lv_icmp_eq (tgt := 1600) F.1.1 F.1.2.1 dL_law_1595 (by decide) (fun _ => ?_) (fun hc => absurd rfl hc)
  refine lv_iload F.1.1 F.1.2.1 dL_law_1600 (lv_at hl 1 rfl) ?_
  refine lv_if_ne (tgt := 1617) F.1.1 F.1.2.1 dL_law_1602 (by decide) (fun hc => ?_) (fun hc => ?_)
  · refine lv_goto (tgt := 1781) F.1.1 F.1.2.1 dL_law_1617 (by decide) ?_
    refine W.widen (k := 600002) (n := 7302232) (Nat.le_of_ble_eq_true rfl) (Nat.le_of_ble_eq_true rfl) ?_
    exact kk _ _ _ hS (lv_sub hl [2, 6] rfl)
  · have hc0 : c0 = 0 := hc
    refine lv_aload_n F.1.1 F.1.2.1 dL_law_1605 rfl (lv_at hl 3 rfl) ?_
    refine lv_iconst (v := 0) F.1.1 F.1.2.1 dL_law_1606 (by decide) ?_
    refine va_lald F.1.1 F.1.2.1 F.2 hO 0 6 rfl rfl (show vp_in 0 1 from by unfold vp_in; decide) dL_law_1607 ?_
    refine W.eq (g2 := F0 m 1608 ls [.long (g1 0)]) rfl ?_
    refine lv_iload F.1.1 F.1.2.1 dL_law_1608 (lv_at hl 0 rfl) ?_
    refine lv_i2l (v := r6.toInt64) F.1.1 F.1.2.1 dL_law_1610 rfl ?_
    refine W.lcmp F.1.1 F.1.2.1 dL_law_1611 ?_
    refine lv_topi (fun r_1611 er_1611 => ?_)
    refine lv_if_eq (tgt := 1617) F.1.1 F.1.2.1 dL_law_1612 (by decide) (fun _ => ?_) (fun hc => absurd (by rw [er_1611, e5v hc0, hq.2 hc0]; exact pz_cmp _) hc)
    refine lv_goto (tgt := 1781) F.1.1 F.1.2.1 dL_law_1617 (by decide) ?_
    refine W.widen (k := 600002) (n := 7302232) (Nat.le_of_ble_eq_true rfl) (Nat.le_of_ble_eq_true rfl) ?_
    exact kk _ _ _ hS (lv_sub hl [2, 6] rfl)
-- ===== case 29: rowFor
set_option maxHeartbeats 8000000 in
set_option maxRecDepth 100000 in
theorem lc_29 {p : Program} {e : Env} {s : State} {m : MethodId} {below : List Frame} {meth : Method} {c : Code} (l : Launch) (hst : l.stackTraces = false) {b : Nat} {xs : Nat → Int32} {D : va_G} {cA : Nat → ClassId} {ad rd : Nat → Nat} {ao : Nat} {g : Nat → Int64} {H : Heap} {locs : List Loc} {Q : State → Prop} {ls : Array Slot}
    (F : pt_F p m c code 9 s #[Value.ref b] RL D cA) (hbl : b < s.heap.size) (hX : va_X b 6 xs s s.heap) (hZ : px_Z (fun q : Nat => s.heap.size ≤ q) s s.heap) (hN : rt_Zs (rd 13) (rd 14) (fun q : Nat => s.heap.size ≤ q) s s.heap) (hNc : pw_N s) (K : pz_K ad rd ao s.heap.size) (hS : va_S (fun q : Nat => s.heap.size ≤ q) s.heap H locs)
    (hP : va_P D pt_cl (pt_W cA ad pt_M0) H) (hPr : va_P D pt_cl (rt_W cA rd pz_M0) H) (hO : va_P D pt_cl (pw_O cA ao g) H) (hl : lv_has ls 9 [(4, .int 0), (3, .ref ao), (2, .ref (rd 0)), (1, .ref (ad 0)), (0, .ref b)])
    (c0 v0 : Int32) (hc : wpVX7_rowFor (fun X : String => (X = "java/lang/IllegalStateException" ∧ c0 = 1) ∨ (X = "java/lang/IndexOutOfBoundsException" ∧ c0 = 2) ∨ (X = "java/lang/IllegalArgumentException" ∧ c0 = 3)) (xs 1) (xs 2) pt_M0 (fun (r : Int32) (_ : pt_M) => c0 = 0 ∧ r = v0)) (hr : wpX12_rowFor (xs 1) (xs 2) pz_M0 (fun (r : Int32) (M : pt_M) => M 0 0 = c0 ∧ (c0 = 0 → r = v0)))
    (kk : ∀ (H1 : Heap) (locs1 : List Loc) (ls1 : Array Slot), va_S (fun q : Nat => s.heap.size ≤ q) s.heap H1 locs1 → lv_has ls1 9 [(4, .int 0), (0, .ref b)] → W p l e room_1 s m #[Value.ref b] below meth c H1 locs1 600002 7302232 Q (F0 m 1781 ls1 [])) : W p l e room_1 s m #[Value.ref b] below meth c H locs 401 4242 Q (F0 m 1620 ls []) := by
  refine lv_aload_n F.1.1 F.1.2.1 dL_law_1620 rfl (lv_at hl 3 rfl) ?_
  refine lv_aload_n F.1.1 F.1.2.1 dL_law_1621 rfl (lv_at hl 4 rfl) ?_
  refine lv_iload F.1.1 F.1.2.1 dL_law_1622 (lv_at hl 0 rfl) ?_
  refine lv_iconst (v := 1) F.1.1 F.1.2.1 dL_law_1624 (by decide) ?_
  refine lv_iadd F.1.1 F.1.2.1 dL_law_1625 ?_
  refine va_sld F.1.1 F.1.2.1 hX hbl (Nat.not_le.mpr hbl) hS (show vp_in (0 + 1) 6 from by unfold vp_in; decide) dL_law_1626 ?_
  refine W.eq (g2 := F0 m 1627 ls [.int (xs 1), .ref (ad 0)]) rfl ?_
  refine lv_aload_n F.1.1 F.1.2.1 dL_law_1627 rfl (lv_at hl 4 rfl) ?_
  refine lv_iload F.1.1 F.1.2.1 dL_law_1628 (lv_at hl 0 rfl) ?_
  refine lv_iconst (v := 2) F.1.1 F.1.2.1 dL_law_1630 (by decide) ?_
  refine lv_iadd F.1.1 F.1.2.1 dL_law_1631 ?_
  refine va_sld F.1.1 F.1.2.1 hX hbl (Nat.not_le.mpr hbl) hS (show vp_in (0 + 2) 6 from by unfold vp_in; decide) dL_law_1632 ?_
  refine W.eq (g2 := F0 m 1633 ls [.int (xs 2), .int (xs 1), .ref (ad 0)]) rfl ?_
  refine lv_aload_n F.1.1 F.1.2.1 dL_law_1633 rfl (lv_at hl 1 rfl) ?_
  refine va_calli (pw_runS (n := 4) (As := [.ref (ad 0), .int (xs 1), .int (xs 2), .ref ao]) (rest := []) F (mtL_rowFor l hst D cA ad K.1 ao g _ (xs 1) (xs 2) pt_M0 c0 v0 hc) pw_blind (fun U hU hW => ⟨⟨by rw [hU], by rw [hU]; exact hP, va_K.moved hW.alike F.2⟩, by rw [hU]; exact px_Z.moved hW.alike ((hZ.kept hS.2.1).narrow (pz_fa K hS.1).1), by rw [hU]; exact hO, K.2.2.2.1, pw_N.moved hW.alike hNc⟩) kw_941 kw_939 kw_51 kw_940 ⟨by decide, by decide, by decide +kernel⟩ ⟨rfl, rfl, (Nat.le_of_ble_eq_true rfl), (Nat.le_of_ble_eq_true rfl)⟩ rfl hl.1 rfl (Nat.le_of_ble_eq_true rfl) dL_law_1634 ⟨(Nat.le_of_ble_eq_true rfl), (Nat.le_of_ble_eq_true rfl)⟩) hS (fun q _ h => (pz_fa K hS.1).1 q h) (pz_fa K hS.1).1 (fun r5 g1 t H1 locs1 ht _ hq5 hB hz ho hS1 => ?_)
  obtain ⟨e5, e5v⟩ := hq5
  replace e5 := e5.symm
  subst e5
  rw [ht] at hB
  replace hPr := pz_r1 K hPr ho
  clear hO hP
  have hO := hB
  clear hB hS
  have hS := hS1
  clear hS1 ho hz
  refine W.widen (k := 404) (n := 4260) (Nat.le_of_ble_eq_true rfl) (Nat.le_of_ble_eq_true rfl) ?_
  refine lv_istore (lv' := [(5, .int c0), (4, .int 0), (3, .ref ao), (2, .ref (rd 0)), (1, .ref (ad 0)), (0, .ref b)]) F.1.1 F.1.2.1 dL_law_1637 hl (by decide) rfl (fun ls hl => ?_)
  refine lv_aload_n F.1.1 F.1.2.1 dL_law_1639 rfl (lv_at hl 3 rfl) ?_
  refine lv_aload_n F.1.1 F.1.2.1 dL_law_1640 rfl (lv_at hl 5 rfl) ?_
  refine lv_iload F.1.1 F.1.2.1 dL_law_1641 (lv_at hl 1 rfl) ?_
  refine lv_iconst (v := 1) F.1.1 F.1.2.1 dL_law_1643 (by decide) ?_
  refine lv_iadd F.1.1 F.1.2.1 dL_law_1644 ?_
  refine va_sld F.1.1 F.1.2.1 hX hbl (Nat.not_le.mpr hbl) hS (show vp_in (0 + 1) 6 from by unfold vp_in; decide) dL_law_1645 ?_
  refine W.eq (g2 := F0 m 1646 ls [.int (xs 1), .ref (rd 0)]) rfl ?_
  refine lv_aload_n F.1.1 F.1.2.1 dL_law_1646 rfl (lv_at hl 5 rfl) ?_
  refine lv_iload F.1.1 F.1.2.1 dL_law_1647 (lv_at hl 1 rfl) ?_
  refine lv_iconst (v := 2) F.1.1 F.1.2.1 dL_law_1649 (by decide) ?_
  refine lv_iadd F.1.1 F.1.2.1 dL_law_1650 ?_
  refine va_sld F.1.1 F.1.2.1 hX hbl (Nat.not_le.mpr hbl) hS (show vp_in (0 + 2) 6 from by unfold vp_in; decide) dL_law_1651 ?_
  refine W.eq (g2 := F0 m 1652 ls [.int (xs 2), .int (xs 1), .ref (rd 0)]) rfl ?_
  refine va_calli (rt_runVm (n := 2) (As := [.int (xs 1), .int (xs 2)]) (rest := []) F hPr hN hS (pz_fa K hS.1).2.1 (rt_c12 _ rt_k0) (rt_l12 rt_k0) rfl (mtX12_rowFor l D cA rd K.2.1 _ (xs 1) (xs 2) pz_M0 _ hr) kw_1614 kw_1611 kw_60 kw_1612 kw_1613 ⟨by decide, by decide, by decide +kernel⟩ ⟨rfl, rfl, (Nat.le_of_ble_eq_true rfl), (Nat.le_of_ble_eq_true rfl)⟩ rfl hl.1 rfl (Nat.le_of_ble_eq_true rfl) dL_law_1652 ⟨(Nat.le_of_ble_eq_true rfl), (Nat.le_of_ble_eq_true rfl)⟩) hS (fun q _ h => (pz_fa K hS.1).2.1 q h) (pz_fa K hS.1).2.1 (fun r6 M1 t H1 locs1 ht _ hq hB hz ho hS1 => ?_)
  replace hO := pz_o1 K hO ho
  have hT : va_P D pt_cl [(rd 0, .inr (12, [.int (M1 0 0), .ref (rd 1), .ref (rd 6), .ref (rd 12), .int (M1 0 4)]))] H1 := by rw [← ht]; exact va_P.sub hB [0] rfl
  clear hS
  have hS := hS1
  clear hS1 ho hz hPr
  refine lv_istore (lv' := [(6, .int r6), (5, .int c0), (4, .int 0), (3, .ref ao), (2, .ref (rd 0)), (1, .ref (ad 0)), (0, .ref b)]) F.1.1 F.1.2.1 dL_law_1655 hl (by decide) rfl (fun ls hl => ?_)
  refine lv_aload_n F.1.1 F.1.2.1 dL_law_1657 rfl (lv_at hl 4 rfl) ?_
  refine va_calli (sx_runV (n := 0) (As := []) (rest := []) F hT 0 rfl rfl (mtTH0 l D cA (rd 0) (M1 0 0) (.ref (rd 1)) (.ref (rd 6)) (.ref (rd 12)) (.int (M1 0 4))) pz_thblind (fun U hU hW => ⟨by rw [hU]; exact hT, va_K.moved hW.alike F.2⟩) kw_1159 kw_1156 kw_60 kw_1157 kw_1158 ⟨by decide, by decide, by decide +kernel⟩ ⟨rfl, rfl, (Nat.le_of_ble_eq_true rfl), (Nat.le_of_ble_eq_true rfl)⟩ rfl hl.1 rfl (Nat.le_of_ble_eq_true rfl) dL_law_1658 ⟨(Nat.le_of_ble_eq_true rfl), (Nat.le_of_ble_eq_true rfl)⟩) hS (fun _ _ h => h.elim) (fun _ h => h.elim) (fun r7 _ t H1 locs1 ht _ e7 _ hz ho hS1 => ?_)
  replace e7 := (e7.trans hq.1).symm
  subst e7
  replace hO := pz_keep hO (fun _ _ _ _ h => h) ho
  clear hS
  have hS := hS1
  clear hS1 ho hz
  refine lv_iload F.1.1 F.1.2.1 dL_law_1661 (lv_at hl 1 rfl) ?_
  refine lv_icmp_eq (tgt := 1668) F.1.1 F.1.2.1 dL_law_1663 (by decide) (fun _ => ?_) (fun hc => absurd rfl hc)
  refine lv_iload F.1.1 F.1.2.1 dL_law_1668 (lv_at hl 1 rfl) ?_
  refine lv_if_ne (tgt := 1685) F.1.1 F.1.2.1 dL_law_1670 (by decide) (fun hc => ?_) (fun hc => ?_)
  · refine lv_goto (tgt := 1781) F.1.1 F.1.2.1 dL_law_1685 (by decide) ?_
    refine W.widen (k := 600002) (n := 7302232) (Nat.le_of_ble_eq_true rfl) (Nat.le_of_ble_eq_true rfl) ?_
    exact kk _ _ _ hS (lv_sub hl [2, 6] rfl)
  · have hc0 : c0 = 0 := hc
    refine lv_aload_n F.1.1 F.1.2.1 dL_law_1673 rfl (lv_at hl 3 rfl) ?_
    refine lv_iconst (v := 0) F.1.1 F.1.2.1 dL_law_1674 (by decide) ?_
    refine va_lald F.1.1 F.1.2.1 F.2 hO 0 6 rfl rfl (show vp_in 0 1 from by unfold vp_in; decide) dL_law_1675 ?_
    refine W.eq (g2 := F0 m 1676 ls [.long (g1 0)]) rfl ?_
    refine lv_iload F.1.1 F.1.2.1 dL_law_1676 (lv_at hl 0 rfl) ?_
    refine lv_i2l (v := r6.toInt64) F.1.1 F.1.2.1 dL_law_1678 rfl ?_
    refine W.lcmp F.1.1 F.1.2.1 dL_law_1679 ?_
    refine lv_topi (fun r_1679 er_1679 => ?_)
    refine lv_if_eq (tgt := 1685) F.1.1 F.1.2.1 dL_law_1680 (by decide) (fun _ => ?_) (fun hc => absurd (by rw [er_1679, e5v hc0, hq.2 hc0]; exact pz_cmp _) hc)
    refine lv_goto (tgt := 1781) F.1.1 F.1.2.1 dL_law_1685 (by decide) ?_
    refine W.widen (k := 600002) (n := 7302232) (Nat.le_of_ble_eq_true rfl) (Nat.le_of_ble_eq_true rfl) ?_
    exact kk _ _ _ hS (lv_sub hl [2, 6] rfl)
-- ===== case 30: 1688
set_option maxHeartbeats 8000000 in
set_option maxRecDepth 100000 in
theorem lc_30 {p : Program} {e : Env} {s : State} {m : MethodId} {below : List Frame} {meth : Method} {c : Code} (l : Launch) (hst : l.stackTraces = false) {b : Nat} {xs : Nat → Int32} {D : va_G} {cA : Nat → ClassId} {ad rd : Nat → Nat} {ao : Nat} {g : Nat → Int64} {H : Heap} {locs : List Loc} {Q : State → Prop} {ls : Array Slot}
    (F : pt_F p m c code 9 s #[Value.ref b] RL D cA) (hbl : b < s.heap.size) (hX : va_X b 6 xs s s.heap) (hZ : px_Z (fun q : Nat => s.heap.size ≤ q) s s.heap) (hN : rt_Zs (rd 13) (rd 14) (fun q : Nat => s.heap.size ≤ q) s s.heap) (hNc : pw_N s) (K : pz_K ad rd ao s.heap.size) (hS : va_S (fun q : Nat => s.heap.size ≤ q) s.heap H locs)
    (hP : va_P D pt_cl (pt_W cA ad pt_M0) H) (hPr : va_P D pt_cl (rt_W cA rd pz_M0) H) (hO : va_P D pt_cl (pw_O cA ao g) H) (hl : lv_has ls 9 [(4, .int 0), (3, .ref ao), (2, .ref (rd 0)), (1, .ref (ad 0)), (0, .ref b)])
    (v0 : Int32) (hc : wpX7_rowAt (xs 1) pt_M0 (fun (r : Int32) (_ : pt_M) => r = v0)) (hr : wpX12_rowAt (xs 1) pz_M0 (fun (r : Int32) (_ : pt_M) => r = v0))
    (kk : ∀ (H1 : Heap) (locs1 : List Loc) (ls1 : Array Slot), va_S (fun q : Nat => s.heap.size ≤ q) s.heap H1 locs1 → lv_has ls1 9 [(4, .int 0), (0, .ref b)] → W p l e room_1 s m #[Value.ref b] below meth c H1 locs1 600002 7302232 Q (F0 m 1781 ls1 [])) : W p l e room_1 s m #[Value.ref b] below meth c H locs 401 4242 Q (F0 m 1688 ls []) := by
  refine lv_aload_n F.1.1 F.1.2.1 dL_law_1688 rfl (lv_at hl 3 rfl) ?_
  refine lv_aload_n F.1.1 F.1.2.1 dL_law_1689 rfl (lv_at hl 4 rfl) ?_
  refine lv_iload F.1.1 F.1.2.1 dL_law_1690 (lv_at hl 0 rfl) ?_
  refine lv_iconst (v := 1) F.1.1 F.1.2.1 dL_law_1692 (by decide) ?_
  refine lv_iadd F.1.1 F.1.2.1 dL_law_1693 ?_
  refine va_sld F.1.1 F.1.2.1 hX hbl (Nat.not_le.mpr hbl) hS (show vp_in (0 + 1) 6 from by unfold vp_in; decide) dL_law_1694 ?_
  refine W.eq (g2 := F0 m 1695 ls [.int (xs 1), .ref (ad 0)]) rfl ?_
  refine va_calli (pt_runV (n := 1) (As := [.int (xs 1)]) (rest := []) F hP (pt_c7 _ pt_k0) (pt_l7 pt_k0) rfl (mtX7_rowAt l D cA ad K.1 _ (xs 1) pt_M0 _ hc) kw_429 kw_426 kw_52 kw_427 kw_428 ⟨by decide, by decide, by decide +kernel⟩ ⟨rfl, rfl, (Nat.le_of_ble_eq_true rfl), (Nat.le_of_ble_eq_true rfl)⟩ rfl hl.1 rfl (Nat.le_of_ble_eq_true rfl) dL_law_1695 ⟨(Nat.le_of_ble_eq_true rfl), (Nat.le_of_ble_eq_true rfl)⟩) hS (fun q _ h => (pz_fa K hS.1).2.2 q h) (pz_fa K hS.1).2.2 (fun r5 M5 t H1 locs1 ht _ hq5 hB hz ho hS1 => ?_)
  replace hq5 := hq5.symm
  subst hq5
  replace hPr := pz_r2 K hPr ho
  clear hO hP hS
  have hS := hS1
  clear hS1 ho hz
  refine lv_aload_n F.1.1 F.1.2.1 dL_law_1698 rfl (lv_at hl 2 rfl) ?_
  refine lv_aload_n F.1.1 F.1.2.1 dL_law_1699 rfl (lv_at hl 4 rfl) ?_
  refine lv_iload F.1.1 F.1.2.1 dL_law_1700 (lv_at hl 0 rfl) ?_
  refine lv_iconst (v := 1) F.1.1 F.1.2.1 dL_law_1702 (by decide) ?_
  refine lv_iadd F.1.1 F.1.2.1 dL_law_1703 ?_
  refine va_sld F.1.1 F.1.2.1 hX hbl (Nat.not_le.mpr hbl) hS (show vp_in (0 + 1) 6 from by unfold vp_in; decide) dL_law_1704 ?_
  refine W.eq (g2 := F0 m 1705 ls [.int (xs 1), .ref (rd 0), .int v0]) rfl ?_
  refine va_calli (rt_runVm (n := 1) (As := [.int (xs 1)]) (rest := [.int v0]) F hPr hN hS (pz_fa K hS.1).2.1 (rt_c12 _ rt_k0) (rt_l12 rt_k0) rfl (mtX12_rowAt l D cA rd K.2.1 _ (xs 1) pz_M0 _ hr) kw_1618 kw_1615 kw_60 kw_1616 kw_1617 ⟨by decide, by decide, by decide +kernel⟩ ⟨rfl, rfl, (Nat.le_of_ble_eq_true rfl), (Nat.le_of_ble_eq_true rfl)⟩ rfl hl.1 rfl (Nat.le_of_ble_eq_true rfl) dL_law_1705 ⟨(Nat.le_of_ble_eq_true rfl), (Nat.le_of_ble_eq_true rfl)⟩) hS (fun q _ h => (pz_fa K hS.1).2.1 q h) (pz_fa K hS.1).2.1 (fun r6 M1 t H1 locs1 ht _ hq hB hz ho hS1 => ?_)
  replace hq := hq.symm
  clear hS
  have hS := hS1
  clear hS1 ho hz hPr
  refine lv_icmp_eq (tgt := 1781) F.1.1 F.1.2.1 dL_law_1708 (by decide) (fun _ => ?_) (fun hc => absurd hq hc)
  refine W.widen (k := 600002) (n := 7302232) (Nat.le_of_ble_eq_true rfl) (Nat.le_of_ble_eq_true rfl) ?_
  exact kk _ _ _ hS (lv_sub hl [0, 4] rfl)
-- ===== case 31: 1713
set_option maxHeartbeats 8000000 in
set_option maxRecDepth 100000 in
theorem lc_31 {p : Program} {e : Env} {s : State} {m : MethodId} {below : List Frame} {meth : Method} {c : Code} (l : Launch) (hst : l.stackTraces = false) {b : Nat} {xs : Nat → Int32} {D : va_G} {cA : Nat → ClassId} {ad rd : Nat → Nat} {ao : Nat} {g : Nat → Int64} {H : Heap} {locs : List Loc} {Q : State → Prop} {ls : Array Slot}
    (F : pt_F p m c code 9 s #[Value.ref b] RL D cA) (hbl : b < s.heap.size) (hX : va_X b 6 xs s s.heap) (hZ : px_Z (fun q : Nat => s.heap.size ≤ q) s s.heap) (hN : rt_Zs (rd 13) (rd 14) (fun q : Nat => s.heap.size ≤ q) s s.heap) (hNc : pw_N s) (K : pz_K ad rd ao s.heap.size) (hS : va_S (fun q : Nat => s.heap.size ≤ q) s.heap H locs)
    (hP : va_P D pt_cl (pt_W cA ad pt_M0) H) (hPr : va_P D pt_cl (rt_W cA rd pz_M0) H) (hO : va_P D pt_cl (pw_O cA ao g) H) (hl : lv_has ls 9 [(4, .int 0), (3, .ref ao), (2, .ref (rd 0)), (1, .ref (ad 0)), (0, .ref b)])
    (v0 : Int32) (hc : wpX7_looked pt_M0 (fun (r : Int32) (_ : pt_M) => r = v0)) (hr : wpX12_looked pz_M0 (fun (r : Int32) (_ : pt_M) => r = v0))
    (kk : ∀ (H1 : Heap) (locs1 : List Loc) (ls1 : Array Slot), va_S (fun q : Nat => s.heap.size ≤ q) s.heap H1 locs1 → lv_has ls1 9 [(4, .int 0), (0, .ref b)] → W p l e room_1 s m #[Value.ref b] below meth c H1 locs1 600002 7302232 Q (F0 m 1781 ls1 [])) : W p l e room_1 s m #[Value.ref b] below meth c H locs 401 4242 Q (F0 m 1713 ls []) := by
  refine lv_aload_n F.1.1 F.1.2.1 dL_law_1713 rfl (lv_at hl 3 rfl) ?_
  refine va_calli (pt_runV (n := 0) (As := []) (rest := []) F hP (pt_c7 _ pt_k0) (pt_l7 pt_k0) rfl (mtX7_looked l D cA ad K.1 _ pt_M0 _ hc) kw_436 kw_433 kw_52 kw_434 kw_435 ⟨by decide, by decide, by decide +kernel⟩ ⟨rfl, rfl, (Nat.le_of_ble_eq_true rfl), (Nat.le_of_ble_eq_true rfl)⟩ rfl hl.1 rfl (Nat.le_of_ble_eq_true rfl) dL_law_1714 ⟨(Nat.le_of_ble_eq_true rfl), (Nat.le_of_ble_eq_true rfl)⟩) hS (fun q _ h => (pz_fa K hS.1).2.2 q h) (pz_fa K hS.1).2.2 (fun r5 M5 t H1 locs1 ht _ hq5 hB hz ho hS1 => ?_)
  replace hq5 := hq5.symm
  subst hq5
  replace hPr := pz_r2 K hPr ho
  clear hO hP hS
  have hS := hS1
  clear hS1 ho hz
  refine lv_aload_n F.1.1 F.1.2.1 dL_law_1717 rfl (lv_at hl 2 rfl) ?_
  refine va_calli (rt_runVm (n := 0) (As := []) (rest := [.int v0]) F hPr hN hS (pz_fa K hS.1).2.1 (rt_c12 _ rt_k0) (rt_l12 rt_k0) rfl (mtX12_looked l D cA rd K.2.1 _ pz_M0 _ hr) kw_1626 kw_1623 kw_60 kw_1624 kw_1625 ⟨by decide, by decide, by decide +kernel⟩ ⟨rfl, rfl, (Nat.le_of_ble_eq_true rfl), (Nat.le_of_ble_eq_true rfl)⟩ rfl hl.1 rfl (Nat.le_of_ble_eq_true rfl) dL_law_1718 ⟨(Nat.le_of_ble_eq_true rfl), (Nat.le_of_ble_eq_true rfl)⟩) hS (fun q _ h => (pz_fa K hS.1).2.1 q h) (pz_fa K hS.1).2.1 (fun r6 M1 t H1 locs1 ht _ hq hB hz ho hS1 => ?_)
  replace hq := hq.symm
  clear hS
  have hS := hS1
  clear hS1 ho hz hPr
  refine lv_icmp_eq (tgt := 1781) F.1.1 F.1.2.1 dL_law_1721 (by decide) (fun _ => ?_) (fun hc => absurd hq hc)
  refine W.widen (k := 600002) (n := 7302232) (Nat.le_of_ble_eq_true rfl) (Nat.le_of_ble_eq_true rfl) ?_
  exact kk _ _ _ hS (lv_sub hl [0, 4] rfl)
-- ===== case 32: 1726
set_option maxHeartbeats 8000000 in
set_option maxRecDepth 100000 in
theorem lc_32 {p : Program} {e : Env} {s : State} {m : MethodId} {below : List Frame} {meth : Method} {c : Code} (l : Launch) (hst : l.stackTraces = false) {b : Nat} {xs : Nat → Int32} {D : va_G} {cA : Nat → ClassId} {ad rd : Nat → Nat} {ao : Nat} {g : Nat → Int64} {H : Heap} {locs : List Loc} {Q : State → Prop} {ls : Array Slot}
    (F : pt_F p m c code 9 s #[Value.ref b] RL D cA) (hbl : b < s.heap.size) (hX : va_X b 6 xs s s.heap) (hZ : px_Z (fun q : Nat => s.heap.size ≤ q) s s.heap) (hN : rt_Zs (rd 13) (rd 14) (fun q : Nat => s.heap.size ≤ q) s s.heap) (hNc : pw_N s) (K : pz_K ad rd ao s.heap.size) (hS : va_S (fun q : Nat => s.heap.size ≤ q) s.heap H locs)
    (hP : va_P D pt_cl (pt_W cA ad pt_M0) H) (hPr : va_P D pt_cl (rt_W cA rd pz_M0) H) (hO : va_P D pt_cl (pw_O cA ao g) H) (hl : lv_has ls 9 [(4, .int 0), (3, .ref ao), (2, .ref (rd 0)), (1, .ref (ad 0)), (0, .ref b)])
    (v0 : UInt64) (hc : wpX7_meanAge pt_M0 (fun (r : UInt64) (_ : pt_M) => r = v0)) (hr : wpX12_meanAge pz_M0 (fun (r : UInt64) (_ : pt_M) => r = v0))
    (kk : ∀ (H1 : Heap) (locs1 : List Loc) (ls1 : Array Slot), va_S (fun q : Nat => s.heap.size ≤ q) s.heap H1 locs1 → lv_has ls1 9 [(4, .int 0), (0, .ref b)] → W p l e room_1 s m #[Value.ref b] below meth c H1 locs1 600002 7302232 Q (F0 m 1781 ls1 [])) : W p l e room_1 s m #[Value.ref b] below meth c H locs 401 4242 Q (F0 m 1726 ls []) := by
  refine lv_aload_n F.1.1 F.1.2.1 dL_law_1726 rfl (lv_at hl 3 rfl) ?_
  refine va_calld (pt_runV (n := 0) (As := []) (rest := []) F hP (pt_c7 _ pt_k0) (pt_l7 pt_k0) rfl (mtX7_meanAge l D cA ad K.1 _ pt_M0 _ hc) kw_440 kw_437 kw_52 kw_438 kw_439 ⟨by decide, by decide, by decide +kernel⟩ ⟨rfl, rfl, (Nat.le_of_ble_eq_true rfl), (Nat.le_of_ble_eq_true rfl)⟩ rfl hl.1 rfl (Nat.le_of_ble_eq_true rfl) dL_law_1727 ⟨(Nat.le_of_ble_eq_true rfl), (Nat.le_of_ble_eq_true rfl)⟩) hS (fun q _ h => (pz_fa K hS.1).2.2 q h) (pz_fa K hS.1).2.2 (fun r5 M5 t H1 locs1 ht _ hq5 hB hz ho hS1 => ?_)
  replace hq5 := hq5.symm
  subst hq5
  replace hPr := pz_r2 K hPr ho
  clear hO hP hS
  have hS := hS1
  clear hS1 ho hz
  refine lv_dstore (lv' := [(5, .double v0), (4, .int 0), (3, .ref ao), (2, .ref (rd 0)), (1, .ref (ad 0)), (0, .ref b)]) F.1.1 F.1.2.1 dL_law_1730 hl (by decide) rfl (fun ls hl => ?_)
  refine lv_aload_n F.1.1 F.1.2.1 dL_law_1732 rfl (lv_at hl 3 rfl) ?_
  refine va_calld (rt_runVm (n := 0) (As := []) (rest := []) F hPr hN hS (pz_fa K hS.1).2.1 (rt_c12 _ rt_k0) (rt_l12 rt_k0) rfl (mtX12_meanAge l D cA rd K.2.1 _ pz_M0 _ hr) kw_1630 kw_1627 kw_60 kw_1628 kw_1629 ⟨by decide, by decide, by decide +kernel⟩ ⟨rfl, rfl, (Nat.le_of_ble_eq_true rfl), (Nat.le_of_ble_eq_true rfl)⟩ rfl hl.1 rfl (Nat.le_of_ble_eq_true rfl) dL_law_1733 ⟨(Nat.le_of_ble_eq_true rfl), (Nat.le_of_ble_eq_true rfl)⟩) hS (fun q _ h => (pz_fa K hS.1).2.1 q h) (pz_fa K hS.1).2.1 (fun r6 M1 t H1 locs1 ht _ hq hB hz ho hS1 => ?_)
  replace hq := hq.symm
  subst hq
  clear hS
  have hS := hS1
  clear hS1 ho hz hPr
  refine lv_dstore (lv' := [(7, .double v0), (5, .double v0), (4, .int 0), (3, .ref ao), (2, .ref (rd 0)), (1, .ref (ad 0)), (0, .ref b)]) F.1.1 F.1.2.1 dL_law_1736 hl (by decide) rfl (fun ls hl => ?_)
  refine lv_dload F.1.1 F.1.2.1 dL_law_1738 (lv_at hl 1 rfl) ?_
  refine lv_dload F.1.1 F.1.2.1 dL_law_1740 (lv_at hl 0 rfl) ?_
  refine lv_dcmp F.1.1 F.1.2.1 dL_law_1742 ?_
  refine lv_topi (fun r_1742 er_1742 => ?_)
  refine lv_if_eq (tgt := 1764) F.1.1 F.1.2.1 dL_law_1743 (by decide) (fun hd => ?_) (fun hd => ?_)
  · refine lv_goto (tgt := 1781) F.1.1 F.1.2.1 dL_law_1764 (by decide) ?_
    refine W.widen (k := 600002) (n := 7302232) (Nat.le_of_ble_eq_true rfl) (Nat.le_of_ble_eq_true rfl) ?_
    exact kk _ _ _ hS (lv_sub hl [2, 6] rfl)
  · refine lv_dload F.1.1 F.1.2.1 dL_law_1746 (lv_at hl 1 rfl) ?_
    refine lv_dload F.1.1 F.1.2.1 dL_law_1748 (lv_at hl 1 rfl) ?_
    refine lv_dcmp F.1.1 F.1.2.1 dL_law_1750 ?_
    refine lv_topi (fun r_1750 er_1750 => ?_)
    refine lv_if_eq (tgt := 1762) F.1.1 F.1.2.1 dL_law_1751 (by decide) (fun h2 => absurd (er_1742.trans (er_1750.symm.trans h2)) hd) (fun _ => ?_)
    refine lv_dload F.1.1 F.1.2.1 dL_law_1754 (lv_at hl 0 rfl) ?_
    refine lv_dload F.1.1 F.1.2.1 dL_law_1756 (lv_at hl 0 rfl) ?_
    refine lv_dcmp F.1.1 F.1.2.1 dL_law_1758 ?_
    refine lv_topi (fun r_1758 er_1758 => ?_)
    refine lv_if_ne (tgt := 1764) F.1.1 F.1.2.1 dL_law_1759 (by decide) (fun _ => ?_) (fun h2 => absurd (er_1742.trans (er_1758.symm.trans h2)) hd)
    refine lv_goto (tgt := 1781) F.1.1 F.1.2.1 dL_law_1764 (by decide) ?_
    refine W.widen (k := 600002) (n := 7302232) (Nat.le_of_ble_eq_true rfl) (Nat.le_of_ble_eq_true rfl) ?_
    exact kk _ _ _ hS (lv_sub hl [2, 6] rfl)
-- ===== case 33: 1767
set_option maxHeartbeats 8000000 in
set_option maxRecDepth 100000 in
theorem lc_33 {p : Program} {e : Env} {s : State} {m : MethodId} {below : List Frame} {meth : Method} {c : Code} (l : Launch) (hst : l.stackTraces = false) {b : Nat} {xs : Nat → Int32} {D : va_G} {cA : Nat → ClassId} {ad rd : Nat → Nat} {ao : Nat} {g : Nat → Int64} {H : Heap} {locs : List Loc} {Q : State → Prop} {ls : Array Slot}
    (F : pt_F p m c code 9 s #[Value.ref b] RL D cA) (hbl : b < s.heap.size) (hX : va_X b 6 xs s s.heap) (hZ : px_Z (fun q : Nat => s.heap.size ≤ q) s s.heap) (hN : rt_Zs (rd 13) (rd 14) (fun q : Nat => s.heap.size ≤ q) s s.heap) (hNc : pw_N s) (K : pz_K ad rd ao s.heap.size) (hS : va_S (fun q : Nat => s.heap.size ≤ q) s.heap H locs)
    (hP : va_P D pt_cl (pt_W cA ad pt_M0) H) (hPr : va_P D pt_cl (rt_W cA rd pz_M0) H) (hO : va_P D pt_cl (pw_O cA ao g) H) (hl : lv_has ls 9 [(4, .int 0), (3, .ref ao), (2, .ref (rd 0)), (1, .ref (ad 0)), (0, .ref b)])
    (v0 : Int64) (hc : wpX7_digest pt_M0 (fun (r : Int64) (_ : pt_M) => r = v0)) (hr : wpX12_digest pz_M0 (fun (r : Int64) (_ : pt_M) => r = v0))
    (kk : ∀ (H1 : Heap) (locs1 : List Loc) (ls1 : Array Slot), va_S (fun q : Nat => s.heap.size ≤ q) s.heap H1 locs1 → lv_has ls1 9 [(4, .int 0), (0, .ref b)] → W p l e room_1 s m #[Value.ref b] below meth c H1 locs1 600002 7302232 Q (F0 m 1781 ls1 [])) : W p l e room_1 s m #[Value.ref b] below meth c H locs 401 4242 Q (F0 m 1767 ls []) := by
  refine lv_aload_n F.1.1 F.1.2.1 dL_law_1767 rfl (lv_at hl 3 rfl) ?_
  refine va_calll (pt_runV (n := 0) (As := []) (rest := []) F hP (pt_c7 _ pt_k0) (pt_l7 pt_k0) rfl (mtX7_digest l D cA ad K.1 _ pt_M0 _ hc) kw_453 kw_450 kw_52 kw_451 kw_452 ⟨by decide, by decide, by decide +kernel⟩ ⟨rfl, rfl, (Nat.le_of_ble_eq_true rfl), (Nat.le_of_ble_eq_true rfl)⟩ rfl hl.1 rfl (Nat.le_of_ble_eq_true rfl) dL_law_1768 ⟨(Nat.le_of_ble_eq_true rfl), (Nat.le_of_ble_eq_true rfl)⟩) hS (fun q _ h => (pz_fa K hS.1).2.2 q h) (pz_fa K hS.1).2.2 (fun r5 M5 t H1 locs1 ht _ hq5 hB hz ho hS1 => ?_)
  replace hq5 := hq5.symm
  subst hq5
  replace hPr := pz_r2 K hPr ho
  clear hO hP hS
  have hS := hS1
  clear hS1 ho hz
  refine lv_aload_n F.1.1 F.1.2.1 dL_law_1771 rfl (lv_at hl 2 rfl) ?_
  refine va_calll (rt_runVm (n := 0) (As := []) (rest := [.long v0]) F hPr hN hS (pz_fa K hS.1).2.1 (rt_c12 _ rt_k0) (rt_l12 rt_k0) rfl (mtX12_digest l D cA rd K.2.1 _ pz_M0 _ hr) kw_1634 kw_1631 kw_60 kw_1632 kw_1633 ⟨by decide, by decide, by decide +kernel⟩ ⟨rfl, rfl, (Nat.le_of_ble_eq_true rfl), (Nat.le_of_ble_eq_true rfl)⟩ rfl hl.1 rfl (Nat.le_of_ble_eq_true rfl) dL_law_1772 ⟨(Nat.le_of_ble_eq_true rfl), (Nat.le_of_ble_eq_true rfl)⟩) hS (fun q _ h => (pz_fa K hS.1).2.1 q h) (pz_fa K hS.1).2.1 (fun r6 M1 t H1 locs1 ht _ hq hB hz ho hS1 => ?_)
  replace hq := hq.symm
  clear hS
  have hS := hS1
  clear hS1 ho hz hPr
  refine W.lcmp F.1.1 F.1.2.1 dL_law_1775 ?_
  refine lv_topi (fun r_1775 er_1775 => ?_)
  refine lv_if_eq (tgt := 1781) F.1.1 F.1.2.1 dL_law_1776 (by decide) (fun _ => ?_) (fun hc => absurd (by rw [er_1775, hq]; exact pz_cmp _) hc)
  refine W.widen (k := 600002) (n := 7302232) (Nat.le_of_ble_eq_true rfl) (Nat.le_of_ble_eq_true rfl) ?_
  exact kk _ _ _ hS (lv_sub hl [0, 4] rfl)
