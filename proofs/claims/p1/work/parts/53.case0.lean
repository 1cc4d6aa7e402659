-- ===== case 0: addState
set_option maxHeartbeats 8000000 in
set_option maxRecDepth 100000 in
theorem lc_0 {p : Program} {e : Env} {s : State} {m : MethodId} {below : List Frame} {meth : Method} {c : Code} (l : Launch) (hst : l.stackTraces = false) {b : Nat} {xs : Nat → Int32} {D : va_G} {cA : Nat → ClassId} {ad rd : Nat → Nat} {ao : Nat} {g : Nat → Int64} {H : Heap} {locs : List Loc} {Q : State → Prop} {ls : Array Slot}
    (F : pt_F p m c code 9 s #[Value.ref b] RL D cA) (hbl : b < s.heap.size) (hX : va_X b 6 xs s s.heap) (hZ : px_Z (fun q : Nat => s.heap.size ≤ q) s s.heap) (hN : rt_Zs (rd 13) (rd 14) (fun q : Nat => s.heap.size ≤ q) s s.heap) (hNc : pw_N s) (K : pz_K ad rd ao s.heap.size) (hS : va_S (fun q : Nat => s.heap.size ≤ q) s.heap H locs)
    (hP : va_P D pt_cl (pt_W cA ad pt_M0) H) (hPr : va_P D pt_cl (rt_W cA rd pz_M0) H) (hO : va_P D pt_cl (pw_O cA ao g) H) (hl : lv_has ls 9 [(4, .int 0), (3, .ref ao), (2, .ref (rd 0)), (1, .ref (ad 0)), (0, .ref b)])
    (c0 v0 : Int32) (hc : wpVX7_addState (fun X : String => (X = "java/lang/IllegalStateException" ∧ c0 = 1) ∨ (X = "java/lang/IndexOutOfBoundsException" ∧ c0 = 2) ∨ (X = "java/lang/IllegalArgumentException" ∧ c0 = 3)) (xs 1) (xs 2) pt_M0 (fun (r : Int32) (_ : pt_M) => c0 = 0 ∧ r = v0)) (hr : wpX12_addState (xs 1) (xs 2) pz_M0 (fun (r : Int32) (M : pt_M) => M 0 0 = c0 ∧ (c0 = 0 → r = v0)))
    (kk : ∀ (H1 : Heap) (locs1 : List Loc) (ls1 : Array Slot), va_S (fun q : Nat => s.heap.size ≤ q) s.heap H1 locs1 → lv_has ls1 9 [(4, .int 0), (0, .ref b)] → W p l e room_1 s m #[Value.ref b] below meth c H1 locs1 600002 7302232 Q (F0 m 1781 ls1 [])) : W p l e room_1 s m #[Value.ref b] below meth c H locs 401 4242 Q (F0 m 192 ls []) := by
  refine lv_aload_n F.1.1 F.1.2.1 dL_law_192 rfl (lv_at hl 3 rfl) ?_
  refine lv_aload_n F.1.1 F.1.2.1 dL_law_193 rfl (lv_at hl 4 rfl) ?_
  refine lv_iload F.1.1 F.1.2.1 dL_law_194 (lv_at hl 0 rfl) ?_
  refine lv_iconst (v := 1) F.1.1 F.1.2.1 dL_law_196 (by decide) ?_
  refine lv_iadd F.1.1 F.1.2.1 dL_law_197 ?_
  refine va_sld F.1.1 F.1.2.1 hX hbl (Nat.not_le.mpr hbl) hS (show vp_in (0 + 1) 6 from by unfold vp_in; decide) dL_law_198 ?_
  refine W.eq (g2 := F0 m 199 ls [.int (xs 1), .ref (ad 0)]) rfl ?_
  refine lv_aload_n F.1.1 F.1.2.1 dL_law_199 rfl (lv_at hl 4 rfl) ?_
  refine lv_iload F.1.1 F.1.2.1 dL_law_200 (lv_at hl 0 rfl) ?_
  refine lv_iconst (v := 2) F.1.1 F.1.2.1 dL_law_202 (by decide) ?_
  refine lv_iadd F.1.1 F.1.2.1 dL_law_203 ?_
  refine va_sld F.1.1 F.1.2.1 hX hbl (Nat.not_le.mpr hbl) hS (show vp_in (0 + 2) 6 from by unfold vp_in; decide) dL_law_204 ?_
  refine W.eq (g2 := F0 m 205 ls [.int (xs 2), .int (xs 1), .ref (ad 0)]) rfl ?_
  refine lv_aload_n F.1.1 F.1.2.1 dL_law_205 rfl (lv_at hl 1 rfl) ?_
  refine va_calli (pw_runS (n := 4) (As := [.ref (ad 0), .int (xs 1), .int (xs 2), .ref ao]) (rest := []) F (mtL_addState l hst D cA ad K.1 ao g _ (xs 1) (xs 2) pt_M0 c0 v0 hc) pw_blind (fun U hU hW => ⟨⟨by rw [hU], by rw [hU]; exact hP, va_K.moved hW.alike F.2⟩, by rw [hU]; exact px_Z.moved hW.alike ((hZ.kept hS.2.1).narrow (pz_fa K hS.1).1), by rw [hU]; exact hO, K.2.2.2.1, pw_N.moved hW.alike hNc⟩) kw_587 kw_585 kw_51 kw_586 ⟨by decide, by decide, by decide +kernel⟩ ⟨rfl, rfl, (Nat.le_of_ble_eq_true rfl), (Nat.le_of_ble_eq_true rfl)⟩ rfl hl.1 rfl (Nat.le_of_ble_eq_true rfl) dL_law_206 ⟨(Nat.le_of_ble_eq_true rfl), (Nat.le_of_ble_eq_true rfl)⟩) hS (fun q _ h => (pz_fa K hS.1).1 q h) (pz_fa K hS.1).1 (fun r5 g1 t H1 locs1 ht _ hq5 hB hz ho hS1 => ?_)
  obtain ⟨e5, e5v⟩ := hq5
  replace e5 := e5.symm
  subst e5
  rw [ht] at hB
  replace hPr := pz_r1 K hPr ho
  clear hO hP
  have hO := hB
  clear hB hS
  have hS := hS1
  clear hS1 ho hz
  refine W.widen (k := 403) (n := 4254) (Nat.le_of_ble_eq_true rfl) (Nat.le_of_ble_eq_true rfl) ?_
  refine lv_istore (lv' := [(5, .int c0), (4, .int 0), (3, .ref ao), (2, .ref (rd 0)), (1, .ref (ad 0)), (0, .ref b)]) F.1.1 F.1.2.1 dL_law_209 hl (by decide) rfl (fun ls hl => ?_)
  refine lv_aload_n F.1.1 F.1.2.1 dL_law_211 rfl (lv_at hl 3 rfl) ?_
  refine lv_aload_n F.1.1 F.1.2.1 dL_law_212 rfl (lv_at hl 5 rfl) ?_
  refine lv_iload F.1.1 F.1.2.1 dL_law_213 (lv_at hl 1 rfl) ?_
  refine lv_iconst (v := 1) F.1.1 F.1.2.1 dL_law_215 (by decide) ?_
  refine lv_iadd F.1.1 F.1.2.1 dL_law_216 ?_
  refine va_sld F.1.1 F.1.2.1 hX hbl (Nat.not_le.mpr hbl) hS (show vp_in (0 + 1) 6 from by unfold vp_in; decide) dL_law_217 ?_
  refine W.eq (g2 := F0 m 218 ls [.int (xs 1), .ref (rd 0)]) rfl ?_
  refine lv_aload_n F.1.1 F.1.2.1 dL_law_218 rfl (lv_at hl 5 rfl) ?_
  refine lv_iload F.1.1 F.1.2.1 dL_law_219 (lv_at hl 1 rfl) ?_
  refine lv_iconst (v := 2) F.1.1 F.1.2.1 dL_law_221 (by decide) ?_
  refine lv_iadd F.1.1 F.1.2.1 dL_law_222 ?_
  refine va_sld F.1.1 F.1.2.1 hX hbl (Nat.not_le.mpr hbl) hS (show vp_in (0 + 2) 6 from by unfold vp_in; decide) dL_law_223 ?_
  refine W.eq (g2 := F0 m 224 ls [.int (xs 2), .int (xs 1), .ref (rd 0)]) rfl ?_
  refine va_calli (rt_runVm (n := 2) (As := [.int (xs 1), .int (xs 2)]) (rest := []) F hPr hN hS (pz_fa K hS.1).2.1 (rt_c12 _ rt_k0) (rt_l12 rt_k0) rfl (mtX12_addState l D cA rd K.2.1 _ (xs 1) (xs 2) pz_M0 _ hr) kw_1163 kw_1160 kw_60 kw_1161 kw_1162 ⟨by decide, by decide, by decide +kernel⟩ ⟨rfl, rfl, (Nat.le_of_ble_eq_true rfl), (Nat.le_of_ble_eq_true rfl)⟩ rfl hl.1 rfl (Nat.le_of_ble_eq_true rfl) dL_law_224 ⟨(Nat.le_of_ble_eq_true rfl), (Nat.le_of_ble_eq_true rfl)⟩) hS (fun q _ h => (pz_fa K hS.1).2.1 q h) (pz_fa K hS.1).2.1 (fun r6 M1 t H1 locs1 ht _ hq hB hz ho hS1 => ?_)
  replace hO := pz_o1 K hO ho
  have hT : va_P D pt_cl [(rd 0, .inr (12, [.int (M1 0 0), .ref (rd 1), .ref (rd 6), .ref (rd 12), .int (M1 0 4)]))] H1 := by rw [← ht]; exact hB
  clear hS
  have hS := hS1
  clear hS1 ho hz hPr
  refine W.widen (k := 404) (n := 4259) (Nat.le_of_ble_eq_true rfl) (Nat.le_of_ble_eq_true rfl) ?_
  refine lv_istore (lv' := [(6, .int r6), (5, .int c0), (4, .int 0), (3, .ref ao), (2, .ref (rd 0)), (1, .ref (ad 0)), (0, .ref b)]) F.1.1 F.1.2.1 dL_law_227 hl (by decide) rfl (fun ls hl => ?_)
  refine lv_aload_n F.1.1 F.1.2.1 dL_law_229 rfl (lv_at hl 4 rfl) ?_
  refine va_calli (sx_runV (n := 0) (As := []) (rest := []) F hT 0 rfl rfl (mtTH0 l D cA (rd 0) (M1 0 0) (.ref (rd 1)) (.ref (rd 6)) (.ref (rd 12)) (.int (M1 0 4))) pz_thblind (fun U hU hW => ⟨by rw [hU]; exact hT, va_K.moved hW.alike F.2⟩) kw_1159 kw_1156 kw_60 kw_1157 kw_1158 ⟨by decide, by decide, by decide +kernel⟩ ⟨rfl, rfl, (Nat.le_of_ble_eq_true rfl), (Nat.le_of_ble_eq_true rfl)⟩ rfl hl.1 rfl (Nat.le_of_ble_eq_true rfl) dL_law_230 ⟨(Nat.le_of_ble_eq_true rfl), (Nat.le_of_ble_eq_true rfl)⟩) hS (fun _ _ h => h.elim) (fun _ h => h.elim) (fun r7 _ t H1 locs1 ht _ e7 _ hz ho hS1 => ?_)
  replace e7 := (e7.trans hq.1).symm
  subst e7
  replace hO := pz_keep hO (fun _ _ _ _ h => h) ho
  clear hS
  have hS := hS1
  clear hS1 ho hz
  refine lv_iload F.1.1 F.1.2.1 dL_law_233 (lv_at hl 1 rfl) ?_
  refine lv_icmp_eq (tgt := 240) F.1.1 F.1.2.1 dL_law_235 (by decide) (fun _ => ?_) (fun hc => absurd rfl hc)
  refine lv_iload F.1.1 F.1.2.1 dL_law_240 (lv_at hl 1 rfl) ?_
  refine lv_if_ne (tgt := 257) F.1.1 F.1.2.1 dL_law_242 (by decide) (fun hc => ?_) (fun hc => ?_)
  · refine lv_goto (tgt := 1781) F.1.1 F.1.2.1 dL_law_257 (by decide) ?_
    refine W.widen (k := 600002) (n := 7302232) (Nat.le_of_ble_eq_true rfl) (Nat.le_of_ble_eq_true rfl) ?_
    exact kk _ _ _ hS (lv_sub hl [2, 6] rfl)
  · have hc0 : c0 = 0 := hc
    refine lv_aload_n F.1.1 F.1.2.1 dL_law_245 rfl (lv_at hl 3 rfl) ?_
    refine lv_iconst (v := 0) F.1.1 F.1.2.1 dL_law_246 (by decide) ?_
    refine va_lald F.1.1 F.1.2.1 F.2 hO 0 6 rfl rfl (show vp_in 0 1 from by unfold vp_in; decide) dL_law_247 ?_
    refine W.eq (g2 := F0 m 248 ls [.long (g1 0)]) rfl ?_
    refine lv_iload F.1.1 F.1.2.1 dL_law_248 (lv_at hl 0 rfl) ?_
    refine lv_i2l (v := r6.toInt64) F.1.1 F.1.2.1 dL_law_250 rfl ?_
    refine W.lcmp F.1.1 F.1.2.1 dL_law_251 ?_
    refine lv_topi (fun r_251 er_251 => ?_)
    refine lv_if_eq (tgt := 257) F.1.1 F.1.2.1 dL_law_252 (by decide) (fun _ => ?_) (fun hc => absurd (by rw [er_251, e5v hc0, hq.2 hc0]; exact pz_cmp _) hc)
    refine lv_goto (tgt := 1781) F.1.1 F.1.2.1 dL_law_257 (by decide) ?_
    refine W.widen (k := 600002) (n := 7302232) (Nat.le_of_ble_eq_true rfl) (Nat.le_of_ble_eq_true rfl) ?_
    exact kk _ _ _ hS (lv_sub hl [2, 6] rfl)
-- ===== case 1: setFirst
set_option maxHeartbeats 8000000 in
set_option maxRecDepth 100000 in
theorem lc_1 {p : Program} {e : Env} {s : State} {m : MethodId} {below : List Frame} {meth : Method} {c : Code} (l : Launch) (hst : l.stackTraces = false) {b : Nat} {xs : Nat → Int32} {D : va_G} {cA : Nat → ClassId} {ad rd : Nat → Nat} {ao : Nat} {g : Nat → Int64} {H : Heap} {locs : List Loc} {Q : State → Prop} {ls : Array Slot}
    (F : pt_F p m c code 9 s #[Value.ref b] RL D cA) (hbl : b < s.heap.size) (hX : va_X b 6 xs s s.heap) (hZ : px_Z (fun q : Nat => s.heap.size ≤ q) s s.heap) (hN : rt_Zs (rd 13) (rd 14) (fun q : Nat => s.heap.size ≤ q) s s.heap) (hNc : pw_N s) (K : pz_K ad rd ao s.heap.size) (hS : va_S (fun q : Nat => s.heap.size ≤ q) s.heap H locs)
    (hP : va_P D pt_cl (pt_W cA ad pt_M0) H) (hPr : va_P D pt_cl (rt_W cA rd pz_M0) H) (hO : va_P D pt_cl (pw_O cA ao g) H) (hl : lv_has ls 9 [(4, .int 0), (3, .ref ao), (2, .ref (rd 0)), (1, .ref (ad 0)), (0, .ref b)])
    (c0 v0 : Int32) (hc : wpVX7_setFirst (fun X : String => (X = "java/lang/IllegalStateException" ∧ c0 = 1) ∨ (X = "java/lang/IndexOutOfBoundsException" ∧ c0 = 2) ∨ (X = "java/lang/IllegalArgumentException" ∧ c0 = 3)) (xs 1) (xs 2) pt_M0 (fun (r : Int32) (_ : pt_M) => c0 = 0 ∧ r = v0)) (hr : wpX12_setFirst (xs 1) (xs 2) pz_M0 (fun (r : Int32) (M : pt_M) => M 0 0 = c0 ∧ (c0 = 0 → r = v0)))
    (kk : ∀ (H1 : Heap) (locs1 : List Loc) (ls1 : Array Slot), va_S (fun q : Nat => s.heap.size ≤ q) s.heap H1 locs1 → lv_has ls1 9 [(4, .int 0), (0, .ref b)] → W p l e room_1 s m #[Value.ref b] below meth c H1 locs1 600002 7302232 Q (F0 m 1781 ls1 [])) : W p l e room_1 s m #[Value.ref b] below meth c H locs 401 4242 Q (F0 m 260 ls []) := by
  refine lv_aload_n F.1.1 F.1.2.1 dL_law_260 rfl (lv_at hl 3 rfl) ?_
  refine lv_aload_n F.1.1 F.1.2.1 dL_law_261 rfl (lv_at hl 4 rfl) ?_
  refine lv_iload F.1.1 F.1.2.1 dL_law_262 (lv_at hl 0 rfl) ?_
  refine lv_iconst (v := 1) F.1.1 F.1.2.1 dL_law_264 (by decide) ?_
  refine lv_iadd F.1.1 F.1.2.1 dL_law_265 ?_
  refine va_sld F.1.1 F.1.2.1 hX hbl (Nat.not_le.mpr hbl) hS (show vp_in (0 + 1) 6 from by unfold vp_in; decide) dL_law_266 ?_
  refine W.eq (g2 := F0 m 267 ls [.int (xs 1), .ref (ad 0)]) rfl ?_
  refine lv_aload_n F.1.1 F.1.2.1 dL_law_267 rfl (lv_at hl 4 rfl) ?_
  refine lv_iload F.1.1 F.1.2.1 dL_law_268 (lv_at hl 0 rfl) ?_
  refine lv_iconst (v := 2) F.1.1 F.1.2.1 dL_law_270 (by decide) ?_
  refine lv_iadd F.1.1 F.1.2.1 dL_law_271 ?_
  refine va_sld F.1.1 F.1.2.1 hX hbl (Nat.not_le.mpr hbl) hS (show vp_in (0 + 2) 6 from by unfold vp_in; decide) dL_law_272 ?_
  refine W.eq (g2 := F0 m 273 ls [.int (xs 2), .int (xs 1), .ref (ad 0)]) rfl ?_
  refine lv_aload_n F.1.1 F.1.2.1 dL_law_273 rfl (lv_at hl 1 rfl) ?_
  refine va_calli (pw_runS (n := 4) (As := [.ref (ad 0), .int (xs 1), .int (xs 2), .ref ao]) (rest := []) F (mtL_setFirst l hst D cA ad K.1 ao g _ (xs 1) (xs 2) pt_M0 c0 v0 hc) pw_blind (fun U hU hW => ⟨⟨by rw [hU], by rw [hU]; exact hP, va_K.moved hW.alike F.2⟩, by rw [hU]; exact px_Z.moved hW.alike ((hZ.kept hS.2.1).narrow (pz_fa K hS.1).1), by rw [hU]; exact hO, K.2.2.2.1, pw_N.moved hW.alike hNc⟩) kw_631 kw_629 kw_51 kw_630 ⟨by decide, by decide, by decide +kernel⟩ ⟨rfl, rfl, (Nat.le_of_ble_eq_true rfl), (Nat.le_of_ble_eq_true rfl)⟩ rfl hl.1 rfl (Nat.le_of_ble_eq_true rfl) dL_law_274 ⟨(Nat.le_of_ble_eq_true rfl), (Nat.le_of_ble_eq_true rfl)⟩) hS (fun q _ h => (pz_fa K hS.1).1 q h) (pz_fa K hS.1).1 (fun r5 g1 t H1 locs1 ht _ hq5 hB hz ho hS1 => ?_)
  obtain ⟨e5, e5v⟩ := hq5
  replace e5 := e5.symm
  subst e5
  rw [ht] at hB
  replace hPr := pz_r1 K hPr ho
  clear hO hP
  have hO := hB
  clear hB hS
  have hS := hS1
  clear hS1 ho hz
  refine W.widen (k := 405) (n := 4266) (Nat.le_of_ble_eq_true rfl) (Nat.le_of_ble_eq_true rfl) ?_
  refine lv_istore (lv' := [(5, .int c0), (4, .int 0), (3, .ref ao), (2, .ref (rd 0)), (1, .ref (ad 0)), (0, .ref b)]) F.1.1 F.1.2.1 dL_law_277 hl (by decide) rfl (fun ls hl => ?_)
  refine lv_aload_n F.1.1 F.1.2.1 dL_law_279 rfl (lv_at hl 3 rfl) ?_
  refine lv_aload_n F.1.1 F.1.2.1 dL_law_280 rfl (lv_at hl 5 rfl) ?_
  refine lv_iload F.1.1 F.1.2.1 dL_law_281 (lv_at hl 1 rfl) ?_
  refine lv_iconst (v := 1) F.1.1 F.1.2.1 dL_law_283 (by decide) ?_
  refine lv_iadd F.1.1 F.1.2.1 dL_law_284 ?_
  refine va_sld F.1.1 F.1.2.1 hX hbl (Nat.not_le.mpr hbl) hS (show vp_in (0 + 1) 6 from by unfold vp_in; decide) dL_law_285 ?_
  refine W.eq (g2 := F0 m 286 ls [.int (xs 1), .ref (rd 0)]) rfl ?_
  refine lv_aload_n F.1.1 F.1.2.1 dL_law_286 rfl (lv_at hl 5 rfl) ?_
  refine lv_iload F.1.1 F.1.2.1 dL_law_287 (lv_at hl 1 rfl) ?_
  refine lv_iconst (v := 2) F.1.1 F.1.2.1 dL_law_289 (by decide) ?_
  refine lv_iadd F.1.1 F.1.2.1 dL_law_290 ?_
  refine va_sld F.1.1 F.1.2.1 hX hbl (Nat.not_le.mpr hbl) hS (show vp_in (0 + 2) 6 from by unfold vp_in; decide) dL_law_291 ?_
  refine W.eq (g2 := F0 m 292 ls [.int (xs 2), .int (xs 1), .ref (rd 0)]) rfl ?_
  refine va_calli (rt_runVm (n := 2) (As := [.int (xs 1), .int (xs 2)]) (rest := []) F hPr hN hS (pz_fa K hS.1).2.1 (rt_c12 _ rt_k0) (rt_l12 rt_k0) rfl (mtX12_setFirst l D cA rd K.2.1 _ (xs 1) (xs 2) pz_M0 _ hr) kw_1210 kw_1207 kw_60 kw_1208 kw_1209 ⟨by decide, by decide, by decide +kernel⟩ ⟨rfl, rfl, (Nat.le_of_ble_eq_true rfl), (Nat.le_of_ble_eq_true rfl)⟩ rfl hl.1 rfl (Nat.le_of_ble_eq_true rfl) dL_law_292 ⟨(Nat.le_of_ble_eq_true rfl), (Nat.le_of_ble_eq_true rfl)⟩) hS (fun q _ h => (pz_fa K hS.1).2.1 q h) (pz_fa K hS.1).2.1 (fun r6 M1 t H1 locs1 ht _ hq hB hz ho hS1 => ?_)
  replace hO := pz_o1 K hO ho
  have hT : va_P D pt_cl [(rd 0, .inr (12, [.int (M1 0 0), .ref (rd 1), .ref (rd 6), .ref (rd 12), .int (M1 0 4)]))] H1 := by rw [← ht]; exact va_P.sub hB [0] rfl
  clear hS
  have hS := hS1
  clear hS1 ho hz hPr
  refine lv_istore (lv' := [(6, .int r6), (5, .int c0), (4, .int 0), (3, .ref ao), (2, .ref (rd 0)), (1, .ref (ad 0)), (0, .ref b)]) F.1.1 F.1.2.1 dL_law_295 hl (by decide) rfl (fun ls hl => ?_)
  refine lv_aload_n F.1.1 F.1.2.1 dL_law_297 rfl (lv_at hl 4 rfl) ?_
  refine va_calli (sx_runV (n := 0) (As := []) (rest := []) F hT 0 rfl rfl (mtTH0 l D cA (rd 0) (M1 0 0) (.ref (rd 1)) (.ref (rd 6)) (.ref (rd 12)) (.int (M1 0 4))) pz_thblind (fun U hU hW => ⟨by rw [hU]; exact hT, va_K.moved hW.alike F.2⟩) kw_1159 kw_1156 kw_60 kw_1157 kw_1158 ⟨by decide, by decide, by decide +kernel⟩ ⟨rfl, rfl, (Nat.le_of_ble_eq_true rfl), (Nat.le_of_ble_eq_true rfl)⟩ rfl hl.1 rfl (Nat.le_of_ble_eq_true rfl) dL_law_298 ⟨(Nat.le_of_ble_eq_true rfl), (Nat.le_of_ble_eq_true rfl)⟩) hS (fun _ _ h => h.elim) (fun _ h => h.elim) (fun r7 _ t H1 locs1 ht _ e7 _ hz ho hS1 => ?_)
  replace e7 := (e7.trans hq.1).symm
  subst e7
  replace hO := pz_keep hO (fun _ _ _ _ h => h) ho
  clear hS
  have hS := hS1
  clear hS1 ho hz
  refine lv_iload F.1.1 F.1.2.1 dL_law_301 (lv_at hl 1 rfl) ?_
  refine lv_icmp_eq (tgt := 308) F.1.1 F.1.2.1 dL_law_303 (by decide) (fun _ => ?_) (fun hc => absurd rfl hc)
  refine lv_iload F.1.1 F.1.2.1 dL_law_308 (lv_at hl 1 rfl) ?_
  refine lv_if_ne (tgt := 325) F.1.1 F.1.2.1 dL_law_310 (by decide) (fun hc => ?_) (fun hc => ?_)
  · refine lv_goto (tgt := 1781) F.1.1 F.1.2.1 dL_law_325 (by decide) ?_
    refine W.widen (k := 600002) (n := 7302232) (Nat.le_of_ble_eq_true rfl) (Nat.le_of_ble_eq_true rfl) ?_
    exact kk _ _ _ hS (lv_sub hl [2, 6] rfl)
  · have hc0 : c0 = 0 := hc
    refine lv_aload_n F.1.1 F.1.2.1 dL_law_313 rfl (lv_at hl 3 rfl) ?_
    refine lv_iconst (v := 0) F.1.1 F.1.2.1 dL_law_314 (by decide) ?_
    refine va_lald F.1.1 F.1.2.1 F.2 hO 0 6 rfl rfl (show vp_in 0 1 from by unfold vp_in; decide) dL_law_315 ?_
    refine W.eq (g2 := F0 m 316 ls [.long (g1 0)]) rfl ?_
    refine lv_iload F.1.1 F.1.2.1 dL_law_316 (lv_at hl 0 rfl) ?_
    refine lv_i2l (v := r6.toInt64) F.1.1 F.1.2.1 dL_law_318 rfl ?_
    refine W.lcmp F.1.1 F.1.2.1 dL_law_319 ?_
    refine lv_topi (fun r_319 er_319 => ?_)
    refine lv_if_eq (tgt := 325) F.1.1 F.1.2.1 dL_law_320 (by decide) (fun _ => ?_) (fun hc => absurd (by rw [er_319, e5v hc0, hq.2 hc0]; exact pz_cmp _) hc)
    refine lv_goto (tgt := 1781) F.1.1 F.1.2.1 dL_law_325 (by decide) ?_
    refine W.widen (k := 600002) (n := 7302232) (Nat.le_of_ble_eq_true rfl) (Nat.le_of_ble_eq_true rfl) ?_
    exact kk _ _ _ hS (lv_sub hl [2, 6] rfl)
-- ===== case 2: setDoing
set_option maxHeartbeats 8000000 in
set_option maxRecDepth 100000 in
theorem lc_2 {p : Program} {e : Env} {s : State} {m : MethodId} {below : List Frame} {meth : Method} {c : Code} (l : Launch) (hst : l.stackTraces = false) {b : Nat} {xs : Nat → Int32} {D : va_G} {cA : Nat → ClassId} {ad rd : Nat → Nat} {ao : Nat} {g : Nat → Int64} {H : Heap} {locs : List Loc} {Q : State → Prop} {ls : Array Slot}
    (F : pt_F p m c code 9 s #[Value.ref b] RL D cA) (hbl : b < s.heap.size) (hX : va_X b 6 xs s s.heap) (hZ : px_Z (fun q : Nat => s.heap.size ≤ q) s s.heap) (hN : rt_Zs (rd 13) (rd 14) (fun q : Nat => s.heap.size ≤ q) s s.heap) (hNc : pw_N s) (K : pz_K ad rd ao s.heap.size) (hS : va_S (fun q : Nat => s.heap.size ≤ q) s.heap H locs)
    (hP : va_P D pt_cl (pt_W cA ad pt_M0) H) (hPr : va_P D pt_cl (rt_W cA rd pz_M0) H) (hO : va_P D pt_cl (pw_O cA ao g) H) (hl : lv_has ls 9 [(4, .int 0), (3, .ref ao), (2, .ref (rd 0)), (1, .ref (ad 0)), (0, .ref b)])
    (c0 v0 : Int32) (hcz : xs 2 = 0 → wpVX7_setDoing (fun X : String => (X = "java/lang/IllegalStateException" ∧ c0 = 1) ∨ (X = "java/lang/IndexOutOfBoundsException" ∧ c0 = 2) ∨ (X = "java/lang/IllegalArgumentException" ∧ c0 = 3)) (xs 1) 0 (xs 3) (xs 4) (xs 5) pt_M0 (fun (r : Int32) (_ : pt_M) => c0 = 0 ∧ r = v0)) (hrz : xs 2 = 0 → wpX12_setDoing (xs 1) 0 (xs 3) (xs 4) (xs 5) pz_M0 (fun (r : Int32) (M : pt_M) => M 0 0 = c0 ∧ (c0 = 0 → r = v0))) (hcn : ¬ xs 2 = 0 → wpVX7_setDoing (fun X : String => (X = "java/lang/IllegalStateException" ∧ c0 = 1) ∨ (X = "java/lang/IndexOutOfBoundsException" ∧ c0 = 2) ∨ (X = "java/lang/IllegalArgumentException" ∧ c0 = 3)) (xs 1) 1 (xs 3) (xs 4) (xs 5) pt_M0 (fun (r : Int32) (_ : pt_M) => c0 = 0 ∧ r = v0)) (hrn : ¬ xs 2 = 0 → wpX12_setDoing (xs 1) 1 (xs 3) (xs 4) (xs 5) pz_M0 (fun (r : Int32) (M : pt_M) => M 0 0 = c0 ∧ (c0 = 0 → r = v0)))
    (kk : ∀ (H1 : Heap) (locs1 : List Loc) (ls1 : Array Slot), va_S (fun q : Nat => s.heap.size ≤ q) s.heap H1 locs1 → lv_has ls1 9 [(4, .int 0), (0, .ref b)] → W p l e room_1 s m #[Value.ref b] below meth c H1 locs1 600002 7302232 Q (F0 m 1781 ls1 [])) : W p l e room_1 s m #[Value.ref b] below meth c H locs 401 4242 Q (F0 m 328 ls []) := by
  refine lv_aload_n F.1.1 F.1.2.1 dL_law_328 rfl (lv_at hl 3 rfl) ?_
  refine lv_aload_n F.1.1 F.1.2.1 dL_law_329 rfl (lv_at hl 4 rfl) ?_
  refine lv_iload F.1.1 F.1.2.1 dL_law_330 (lv_at hl 0 rfl) ?_
  refine lv_iconst (v := 1) F.1.1 F.1.2.1 dL_law_332 (by decide) ?_
  refine lv_iadd F.1.1 F.1.2.1 dL_law_333 ?_
  refine va_sld F.1.1 F.1.2.1 hX hbl (Nat.not_le.mpr hbl) hS (show vp_in (0 + 1) 6 from by unfold vp_in; decide) dL_law_334 ?_
  refine W.eq (g2 := F0 m 335 ls [.int (xs 1), .ref (ad 0)]) rfl ?_
  refine lv_aload_n F.1.1 F.1.2.1 dL_law_335 rfl (lv_at hl 4 rfl) ?_
  refine lv_iload F.1.1 F.1.2.1 dL_law_336 (lv_at hl 0 rfl) ?_
  refine lv_iconst (v := 2) F.1.1 F.1.2.1 dL_law_338 (by decide) ?_
  refine lv_iadd F.1.1 F.1.2.1 dL_law_339 ?_
  refine va_sld F.1.1 F.1.2.1 hX hbl (Nat.not_le.mpr hbl) hS (show vp_in (0 + 2) 6 from by unfold vp_in; decide) dL_law_340 ?_
  refine W.eq (g2 := F0 m 341 ls [.int (xs 2), .int (xs 1), .ref (ad 0)]) rfl ?_
  by_cases hz : xs 2 = 0
  · refine lv_if_eq (tgt := 348) F.1.1 F.1.2.1 dL_law_341 (by decide) (fun hc => ?_) (fun hc => absurd hz hc)
    refine lv_iconst (v := 0) F.1.1 F.1.2.1 dL_law_348 (by decide) ?_
    refine lv_aload_n F.1.1 F.1.2.1 dL_law_349 rfl (lv_at hl 4 rfl) ?_
    refine lv_iload F.1.1 F.1.2.1 dL_law_350 (lv_at hl 0 rfl) ?_
    refine lv_iconst (v := 3) F.1.1 F.1.2.1 dL_law_352 (by decide) ?_
    refine lv_iadd F.1.1 F.1.2.1 dL_law_353 ?_
    refine va_sld F.1.1 F.1.2.1 hX hbl (Nat.not_le.mpr hbl) hS (show vp_in (0 + 3) 6 from by unfold vp_in; decide) dL_law_354 ?_
    refine W.eq (g2 := F0 m 355 ls [.int (xs 3), .int 0, .int (xs 1), .ref (ad 0)]) rfl ?_
    refine lv_aload_n F.1.1 F.1.2.1 dL_law_355 rfl (lv_at hl 4 rfl) ?_
    refine lv_iload F.1.1 F.1.2.1 dL_law_356 (lv_at hl 0 rfl) ?_
    refine lv_iconst (v := 4) F.1.1 F.1.2.1 dL_law_358 (by decide) ?_
    refine lv_iadd F.1.1 F.1.2.1 dL_law_359 ?_
    refine va_sld F.1.1 F.1.2.1 hX hbl (Nat.not_le.mpr hbl) hS (show vp_in (0 + 4) 6 from by unfold vp_in; decide) dL_law_360 ?_
    refine W.eq (g2 := F0 m 361 ls [.int (xs 4), .int (xs 3), .int 0, .int (xs 1), .ref (ad 0)]) rfl ?_
    refine lv_aload_n F.1.1 F.1.2.1 dL_law_361 rfl (lv_at hl 4 rfl) ?_
    refine lv_iload F.1.1 F.1.2.1 dL_law_362 (lv_at hl 0 rfl) ?_
    refine lv_iconst (v := 5) F.1.1 F.1.2.1 dL_law_364 (by decide) ?_
    refine lv_iadd F.1.1 F.1.2.1 dL_law_365 ?_
    refine va_sld F.1.1 F.1.2.1 hX hbl (Nat.not_le.mpr hbl) hS (show vp_in (0 + 5) 6 from by unfold vp_in; decide) dL_law_366 ?_
    refine W.eq (g2 := F0 m 367 ls [.int (xs 5), .int (xs 4), .int (xs 3), .int 0, .int (xs 1), .ref (ad 0)]) rfl ?_
    refine lv_aload_n F.1.1 F.1.2.1 dL_law_367 rfl (lv_at hl 1 rfl) ?_
    refine va_calli (pw_runS (n := 7) (As := [.ref (ad 0), .int (xs 1), .int 0, .int (xs 3), .int (xs 4), .int (xs 5), .ref ao]) (rest := []) F (mtL_setDoing l hst D cA ad K.1 ao g _ (xs 1) 0 (xs 3) (xs 4) (xs 5) pt_M0 c0 v0 (hcz hz)) pw_blind (fun U hU hW => ⟨⟨by rw [hU], by rw [hU]; exact hP, va_K.moved hW.alike F.2⟩, by rw [hU]; exact px_Z.moved hW.alike ((hZ.kept hS.2.1).narrow (pz_fa K hS.1).1), by rw [hU]; exact hO, K.2.2.2.1, pw_N.moved hW.alike hNc⟩) kw_643 kw_641 kw_51 kw_642 ⟨by decide, by decide, by decide +kernel⟩ ⟨rfl, rfl, (Nat.le_of_ble_eq_true rfl), (Nat.le_of_ble_eq_true rfl)⟩ rfl hl.1 rfl (Nat.le_of_ble_eq_true rfl) dL_law_368 ⟨(Nat.le_of_ble_eq_true rfl), (Nat.le_of_ble_eq_true rfl)⟩) hS (fun q _ h => (pz_fa K hS.1).1 q h) (pz_fa K hS.1).1 (fun r5 g1 t H1 locs1 ht _ hq5 hB hz ho hS1 => ?_)
    obtain ⟨e5, e5v⟩ := hq5
    replace e5 := e5.symm
    subst e5
    rw [ht] at hB
    replace hPr := pz_r1 K hPr ho
    clear hO hP
    have hO := hB
    clear hB hS
    have hS := hS1
    clear hS1 ho hz
    refine W.widen (k := 404) (n := 4260) (Nat.le_of_ble_eq_true rfl) (Nat.le_of_ble_eq_true rfl) ?_
    refine lv_istore (lv' := [(5, .int c0), (4, .int 0), (3, .ref ao), (2, .ref (rd 0)), (1, .ref (ad 0)), (0, .ref b)]) F.1.1 F.1.2.1 dL_law_371 hl (by decide) rfl (fun ls hl => ?_)
    refine lv_aload_n F.1.1 F.1.2.1 dL_law_373 rfl (lv_at hl 3 rfl) ?_
    refine lv_aload_n F.1.1 F.1.2.1 dL_law_374 rfl (lv_at hl 5 rfl) ?_
    refine lv_iload F.1.1 F.1.2.1 dL_law_375 (lv_at hl 1 rfl) ?_
    refine lv_iconst (v := 1) F.1.1 F.1.2.1 dL_law_377 (by decide) ?_
    refine lv_iadd F.1.1 F.1.2.1 dL_law_378 ?_
    refine va_sld F.1.1 F.1.2.1 hX hbl (Nat.not_le.mpr hbl) hS (show vp_in (0 + 1) 6 from by unfold vp_in; decide) dL_law_379 ?_
    refine W.eq (g2 := F0 m 380 ls [.int (xs 1), .ref (rd 0)]) rfl ?_
    refine lv_aload_n F.1.1 F.1.2.1 dL_law_380 rfl (lv_at hl 5 rfl) ?_
    refine lv_iload F.1.1 F.1.2.1 dL_law_381 (lv_at hl 1 rfl) ?_
    refine lv_iconst (v := 2) F.1.1 F.1.2.1 dL_law_383 (by decide) ?_
    refine lv_iadd F.1.1 F.1.2.1 dL_law_384 ?_
    refine va_sld F.1.1 F.1.2.1 hX hbl (Nat.not_le.mpr hbl) hS (show vp_in (0 + 2) 6 from by unfold vp_in; decide) dL_law_385 ?_
    refine W.eq (g2 := F0 m 386 ls [.int (xs 2), .int (xs 1), .ref (rd 0)]) rfl ?_
    refine lv_if_eq (tgt := 393) F.1.1 F.1.2.1 dL_law_386 (by decide) (fun hc => ?_) (fun hc => absurd hz hc)
    refine lv_iconst (v := 0) F.1.1 F.1.2.1 dL_law_393 (by decide) ?_
    refine lv_aload_n F.1.1 F.1.2.1 dL_law_394 rfl (lv_at hl 5 rfl) ?_
    refine lv_iload F.1.1 F.1.2.1 dL_law_395 (lv_at hl 1 rfl) ?_
    refine lv_iconst (v := 3) F.1.1 F.1.2.1 dL_law_397 (by decide) ?_
    refine lv_iadd F.1.1 F.1.2.1 dL_law_398 ?_
    refine va_sld F.1.1 F.1.2.1 hX hbl (Nat.not_le.mpr hbl) hS (show vp_in (0 + 3) 6 from by unfold vp_in; decide) dL_law_399 ?_
    refine W.eq (g2 := F0 m 400 ls [.int (xs 3), .int 0, .int (xs 1), .ref (rd 0)]) rfl ?_
    refine lv_aload_n F.1.1 F.1.2.1 dL_law_400 rfl (lv_at hl 5 rfl) ?_
    refine lv_iload F.1.1 F.1.2.1 dL_law_401 (lv_at hl 1 rfl) ?_
    refine lv_iconst (v := 4) F.1.1 F.1.2.1 dL_law_403 (by decide) ?_
    refine lv_iadd F.1.1 F.1.2.1 dL_law_404 ?_
    refine va_sld F.1.1 F.1.2.1 hX hbl (Nat.not_le.mpr hbl) hS (show vp_in (0 + 4) 6 from by unfold vp_in; decide) dL_law_405 ?_
    refine W.eq (g2 := F0 m 406 ls [.int (xs 4), .int (xs 3), .int 0, .int (xs 1), .ref (rd 0)]) rfl ?_
    refine lv_aload_n F.1.1 F.1.2.1 dL_law_406 rfl (lv_at hl 5 rfl) ?_
    refine lv_iload F.1.1 F.1.2.1 dL_law_407 (lv_at hl 1 rfl) ?_
    refine lv_iconst (v := 5) F.1.1 F.1.2.1 dL_law_409 (by decide) ?_
    refine lv_iadd F.1.1 F.1.2.1 dL_law_410 ?_
    refine va_sld F.1.1 F.1.2.1 hX hbl (Nat.not_le.mpr hbl) hS (show vp_in (0 + 5) 6 from by unfold vp_in; decide) dL_law_411 ?_
    refine W.eq (g2 := F0 m 412 ls [.int (xs 5), .int (xs 4), .int (xs 3), .int 0, .int (xs 1), .ref (rd 0)]) rfl ?_
    refine va_calli (rt_runVm (n := 5) (As := [.int (xs 1), .int 0, .int (xs 3), .int (xs 4), .int (xs 5)]) (rest := []) F hPr hN hS (pz_fa K hS.1).2.1 (rt_c12 _ rt_k0) (rt_l12 rt_k0) rfl (mtX12_setDoing l D cA rd K.2.1 _ (xs 1) 0 (xs 3) (xs 4) (xs 5) pz_M0 _ (hrz hz)) kw_1240 kw_1237 kw_60 kw_1238 kw_1239 ⟨by decide, by decide, by decide +kernel⟩ ⟨rfl, rfl, (Nat.le_of_ble_eq_true rfl), (Nat.le_of_ble_eq_true rfl)⟩ rfl hl.1 rfl (Nat.le_of_ble_eq_true rfl) dL_law_412 ⟨(Nat.le_of_ble_eq_true rfl), (Nat.le_of_ble_eq_true rfl)⟩) hS (fun q _ h => (pz_fa K hS.1).2.1 q h) (pz_fa K hS.1).2.1 (fun r6 M1 t H1 locs1 ht _ hq hB hz ho hS1 => ?_)
    replace hO := pz_o1 K hO ho
    have hT : va_P D pt_cl [(rd 0, .inr (12, [.int (M1 0 0), .ref (rd 1), .ref (rd 6), .ref (rd 12), .int (M1 0 4)]))] H1 := by rw [← ht]; exact hB
    clear hS
    have hS := hS1
    clear hS1 ho hz hPr
    refine W.widen (k := 405) (n := 4263) (Nat.le_of_ble_eq_true rfl) (Nat.le_of_ble_eq_true rfl) ?_
    refine lv_istore (lv' := [(6, .int r6), (5, .int c0), (4, .int 0), (3, .ref ao), (2, .ref (rd 0)), (1, .ref (ad 0)), (0, .ref b)]) F.1.1 F.1.2.1 dL_law_415 hl (by decide) rfl (fun ls hl => ?_)
    refine lv_aload_n F.1.1 F.1.2.1 dL_law_417 rfl (lv_at hl 4 rfl) ?_
    refine va_calli (sx_runV (n := 0) (As := []) (rest := []) F hT 0 rfl rfl (mtTH0 l D cA (rd 0) (M1 0 0) (.ref (rd 1)) (.ref (rd 6)) (.ref (rd 12)) (.int (M1 0 4))) pz_thblind (fun U hU hW => ⟨by rw [hU]; exact hT, va_K.moved hW.alike F.2⟩) kw_1159 kw_1156 kw_60 kw_1157 kw_1158 ⟨by decide, by decide, by decide +kernel⟩ ⟨rfl, rfl, (Nat.le_of_ble_eq_true rfl), (Nat.le_of_ble_eq_true rfl)⟩ rfl hl.1 rfl (Nat.le_of_ble_eq_true rfl) dL_law_418 ⟨(Nat.le_of_ble_eq_true rfl), (Nat.le_of_ble_eq_true rfl)⟩) hS (fun _ _ h => h.elim) (fun _ h => h.elim) (fun r7 _ t H1 locs1 ht _ e7 _ hz ho hS1 => ?_)
    replace e7 := (e7.trans hq.1).symm
    subst e7
    replace hO := pz_keep hO (fun _ _ _ _ h => h) ho
    clear hS
    have hS := hS1
    clear hS1 ho hz
    refine lv_iload F.1.1 F.1.2.1 dL_law_421 (lv_at hl 1 rfl) ?_
    refine lv_icmp_eq (tgt := 428) F.1.1 F.1.2.1 dL_law_423 (by decide) (fun _ => ?_) (fun hc => absurd rfl hc)
    refine lv_iload F.1.1 F.1.2.1 dL_law_428 (lv_at hl 1 rfl) ?_
    refine lv_if_ne (tgt := 445) F.1.1 F.1.2.1 dL_law_430 (by decide) (fun hc => ?_) (fun hc => ?_)
    · refine lv_goto (tgt := 1781) F.1.1 F.1.2.1 dL_law_445 (by decide) ?_
      refine W.widen (k := 600002) (n := 7302232) (Nat.le_of_ble_eq_true rfl) (Nat.le_of_ble_eq_true rfl) ?_
      exact kk _ _ _ hS (lv_sub hl [2, 6] rfl)
    · have hc0 : c0 = 0 := hc
      refine lv_aload_n F.1.1 F.1.2.1 dL_law_433 rfl (lv_at hl 3 rfl) ?_
      refine lv_iconst (v := 0) F.1.1 F.1.2.1 dL_law_434 (by decide) ?_
      refine va_lald F.1.1 F.1.2.1 F.2 hO 0 6 rfl rfl (show vp_in 0 1 from by unfold vp_in; decide) dL_law_435 ?_
      refine W.eq (g2 := F0 m 436 ls [.long (g1 0)]) rfl ?_
      refine lv_iload F.1.1 F.1.2.1 dL_law_436 (lv_at hl 0 rfl) ?_
      refine lv_i2l (v := r6.toInt64) F.1.1 F.1.2.1 dL_law_438 rfl ?_
      refine W.lcmp F.1.1 F.1.2.1 dL_law_439 ?_
      refine lv_topi (fun r_439 er_439 => ?_)
      refine lv_if_eq (tgt := 445) F.1.1 F.1.2.1 dL_law_440 (by decide) (fun _ => ?_) (fun hc => absurd (by rw [er_439, e5v hc0, hq.2 hc0]; exact pz_cmp _) hc)
      refine lv_goto (tgt := 1781) F.1.1 F.1.2.1 dL_law_445 (by decide) ?_
      refine W.widen (k := 600002) (n := 7302232) (Nat.le_of_ble_eq_true rfl) (Nat.le_of_ble_eq_true rfl) ?_
      exact kk _ _ _ hS (lv_sub hl [2, 6] rfl)
  · refine lv_if_eq (tgt := 348) F.1.1 F.1.2.1 dL_law_341 (by decide) (fun hc => absurd hc hz) (fun hc => ?_)
    refine lv_iconst (v := 1) F.1.1 F.1.2.1 dL_law_344 (by decide) ?_
    refine lv_goto (tgt := 349) F.1.1 F.1.2.1 dL_law_345 (by decide) ?_
    refine lv_aload_n F.1.1 F.1.2.1 dL_law_349 rfl (lv_at hl 4 rfl) ?_
    refine lv_iload F.1.1 F.1.2.1 dL_law_350 (lv_at hl 0 rfl) ?_
    refine lv_iconst (v := 3) F.1.1 F.1.2.1 dL_law_352 (by decide) ?_
    refine lv_iadd F.1.1 F.1.2.1 dL_law_353 ?_
    refine va_sld F.1.1 F.1.2.1 hX hbl (Nat.not_le.mpr hbl) hS (show vp_in (0 + 3) 6 from by unfold vp_in; decide) dL_law_354 ?_
    refine W.eq (g2 := F0 m 355 ls [.int (xs 3), .int 1, .int (xs 1), .ref (ad 0)]) rfl ?_
    refine lv_aload_n F.1.1 F.1.2.1 dL_law_355 rfl (lv_at hl 4 rfl) ?_
    refine lv_iload F.1.1 F.1.2.1 dL_law_356 (lv_at hl 0 rfl) ?_
    refine lv_iconst (v := 4) F.1.1 F.1.2.1 dL_law_358 (by decide) ?_
    refine lv_iadd F.1.1 F.1.2.1 dL_law_359 ?_
    refine va_sld F.1.1 F.1.2.1 hX hbl (Nat.not_le.mpr hbl) hS (show vp_in (0 + 4) 6 from by unfold vp_in; decide) dL_law_360 ?_
    refine W.eq (g2 := F0 m 361 ls [.int (xs 4), .int (xs 3), .int 1, .int (xs 1), .ref (ad 0)]) rfl ?_
    refine lv_aload_n F.1.1 F.1.2.1 dL_law_361 rfl (lv_at hl 4 rfl) ?_
    refine lv_iload F.1.1 F.1.2.1 dL_law_362 (lv_at hl 0 rfl) ?_
    refine lv_iconst (v := 5) F.1.1 F.1.2.1 dL_law_364 (by decide) ?_
    refine lv_iadd F.1.1 F.1.2.1 dL_law_365 ?_
    refine va_sld F.1.1 F.1.2.1 hX hbl (Nat.not_le.mpr hbl) hS (show vp_in (0 + 5) 6 from by unfold vp_in; decide) dL_law_366 ?_
    refine W.eq (g2 := F0 m 367 ls [.int (xs 5), .int (xs 4), .int (xs 3), .int 1, .int (xs 1), .ref (ad 0)]) rfl ?_
    refine lv_aload_n F.1.1 F.1.2.1 dL_law_367 rfl (lv_at hl 1 rfl) ?_
    refine va_calli (pw_runS (n := 7) (As := [.ref (ad 0), .int (xs 1), .int 1, .int (xs 3), .int (xs 4), .int (xs 5), .ref ao]) (rest := []) F (mtL_setDoing l hst D cA ad K.1 ao g _ (xs 1) 1 (xs 3) (xs 4) (xs 5) pt_M0 c0 v0 (hcn hz)) pw_blind (fun U hU hW => ⟨⟨by rw [hU], by rw [hU]; exact hP, va_K.moved hW.alike F.2⟩, by rw [hU]; exact px_Z.moved hW.alike ((hZ.kept hS.2.1).narrow (pz_fa K hS.1).1), by rw [hU]; exact hO, K.2.2.2.1, pw_N.moved hW.alike hNc⟩) kw_643 kw_641 kw_51 kw_642 ⟨by decide, by decide, by decide +kernel⟩ ⟨rfl, rfl, (Nat.le_of_ble_eq_true rfl), (Nat.le_of_ble_eq_true rfl)⟩ rfl hl.1 rfl (Nat.le_of_ble_eq_true rfl) dL_law_368 ⟨(Nat.le_of_ble_eq_true rfl), (Nat.le_of_ble_eq_true rfl)⟩) hS (fun q _ h => (pz_fa K hS.1).1 q h) (pz_fa K hS.1).1 (fun r5 g1 t H1 locs1 ht _ hq5 hB hz ho hS1 => ?_)
    obtain ⟨e5, e5v⟩ := hq5
    replace e5 := e5.symm
    subst e5
    rw [ht] at hB
    replace hPr := pz_r1 K hPr ho
    clear hO hP
    have hO := hB
    clear hB hS
    have hS := hS1
    clear hS1 ho hz
    refine W.widen (k := 404) (n := 4260) (Nat.le_of_ble_eq_true rfl) (Nat.le_of_ble_eq_true rfl) ?_
    refine lv_istore (lv' := [(5, .int c0), (4, .int 0), (3, .ref ao), (2, .ref (rd 0)), (1, .ref (ad 0)), (0, .ref b)]) F.1.1 F.1.2.1 dL_law_371 hl (by decide) rfl (fun ls hl => ?_)
    refine lv_aload_n F.1.1 F.1.2.1 dL_law_373 rfl (lv_at hl 3 rfl) ?_
    refine lv_aload_n F.1.1 F.1.2.1 dL_law_374 rfl (lv_at hl 5 rfl) ?_
    refine lv_iload F.1.1 F.1.2.1 dL_law_375 (lv_at hl 1 rfl) ?_
    refine lv_iconst (v := 1) F.1.1 F.1.2.1 dL_law_377 (by decide) ?_
    refine lv_iadd F.1.1 F.1.2.1 dL_law_378 ?_
    refine va_sld F.1.1 F.1.2.1 hX hbl (Nat.not_le.mpr hbl) hS (show vp_in (0 + 1) 6 from by unfold vp_in; decide) dL_law_379 ?_
    refine W.eq (g2 := F0 m 380 ls [.int (xs 1), .ref (rd 0)]) rfl ?_
    refine lv_aload_n F.1.1 F.1.2.1 dL_law_380 rfl (lv_at hl 5 rfl) ?_
    refine lv_iload F.1.1 F.1.2.1 dL_law_381 (lv_at hl 1 rfl) ?_
    refine lv_iconst (v := 2) F.1.1 F.1.2.1 dL_law_383 (by decide) ?_
    refine lv_iadd F.1.1 F.1.2.1 dL_law_384 ?_
    refine va_sld F.1.1 F.1.2.1 hX hbl (Nat.not_le.mpr hbl) hS (show vp_in (0 + 2) 6 from by unfold vp_in; decide) dL_law_385 ?_
    refine W.eq (g2 := F0 m 386 ls [.int (xs 2), .int (xs 1), .ref (rd 0)]) rfl ?_
    refine lv_if_eq (tgt := 393) F.1.1 F.1.2.1 dL_law_386 (by decide) (fun hc => absurd hc hz) (fun hc => ?_)
    refine lv_iconst (v := 1) F.1.1 F.1.2.1 dL_law_389 (by decide) ?_
    refine lv_goto (tgt := 394) F.1.1 F.1.2.1 dL_law_390 (by decide) ?_
    refine lv_aload_n F.1.1 F.1.2.1 dL_law_394 rfl (lv_at hl 5 rfl) ?_
    refine lv_iload F.1.1 F.1.2.1 dL_law_395 (lv_at hl 1 rfl) ?_
    refine lv_iconst (v := 3) F.1.1 F.1.2.1 dL_law_397 (by decide) ?_
    refine lv_iadd F.1.1 F.1.2.1 dL_law_398 ?_
    refine va_sld F.1.1 F.1.2.1 hX hbl (Nat.not_le.mpr hbl) hS (show vp_in (0 + 3) 6 from by unfold vp_in; decide) dL_law_399 ?_
    refine W.eq (g2 := F0 m 400 ls [.int (xs 3), .int 1, .int (xs 1), .ref (rd 0)]) rfl ?_
    refine lv_aload_n F.1.1 F.1.2.1 dL_law_400 rfl (lv_at hl 5 rfl) ?_
    refine lv_iload F.1.1 F.1.2.1 dL_law_401 (lv_at hl 1 rfl) ?_
    refine lv_iconst (v := 4) F.1.1 F.1.2.1 dL_law_403 (by decide) ?_
    refine lv_iadd F.1.1 F.1.2.1 dL_law_404 ?_
    refine va_sld F.1.1 F.1.2.1 hX hbl (Nat.not_le.mpr hbl) hS (show vp_in (0 + 4) 6 from by unfold vp_in; decide) dL_law_405 ?_
    refine W.eq (g2 := F0 m 406 ls [.int (xs 4), .int (xs 3), .int 1, .int (xs 1), .ref (rd 0)]) rfl ?_
    refine lv_aload_n F.1.1 F.1.2.1 dL_law_406 rfl (lv_at hl 5 rfl) ?_
    refine lv_iload F.1.1 F.1.2.1 dL_law_407 (lv_at hl 1 rfl) ?_
    refine lv_iconst (v := 5) F.1.1 F.1.2.1 dL_law_409 (by decide) ?_
    refine lv_iadd F.1.1 F.1.2.1 dL_law_410 ?_
    refine va_sld F.1.1 F.1.2.1 hX hbl (Nat.not_le.mpr hbl) hS (show vp_in (0 + 5) 6 from by unfold vp_in; decide) dL_law_411 ?_
    refine W.eq (g2 := F0 m 412 ls [.int (xs 5), .int (xs 4), .int (xs 3), .int 1, .int (xs 1), .ref (rd 0)]) rfl ?_
    refine va_calli (rt_runVm (n := 5) (As := [.int (xs 1), .int 1, .int (xs 3), .int (xs 4), .int (xs 5)]) (rest := []) F hPr hN hS (pz_fa K hS.1).2.1 (rt_c12 _ rt_k0) (rt_l12 rt_k0) rfl (mtX12_setDoing l D cA rd K.2.1 _ (xs 1) 1 (xs 3) (xs 4) (xs 5) pz_M0 _ (hrn hz)) kw_1240 kw_1237 kw_60 kw_1238 kw_1239 ⟨by decide, by decide, by decide +kernel⟩ ⟨rfl, rfl, (Nat.le_of_ble_eq_true rfl), (Nat.le_of_ble_eq_true rfl)⟩ rfl hl.1 rfl (Nat.le_of_ble_eq_true rfl) dL_law_412 ⟨(Nat.le_of_ble_eq_true rfl), (Nat.le_of_ble_eq_true rfl)⟩) hS (fun q _ h => (pz_fa K hS.1).2.1 q h) (pz_fa K hS.1).2.1 (fun r6 M1 t H1 locs1 ht _ hq hB hz ho hS1 => ?_)
    replace hO := pz_o1 K hO ho
    have hT : va_P D pt_cl [(rd 0, .inr (12, [.int (M1 0 0), .ref (rd 1), .ref (rd 6), .ref (rd 12), .int (M1 0 4)]))] H1 := by rw [← ht]; exact hB
    clear hS
    have hS := hS1
    clear hS1 ho hz hPr
    refine W.widen (k := 405) (n := 4263) (Nat.le_of_ble_eq_true rfl) (Nat.le_of_ble_eq_true rfl) ?_
    refine lv_istore (lv' := [(6, .int r6), (5, .int c0), (4, .int 0), (3, .ref ao), (2, .ref (rd 0)), (1, .ref (ad 0)), (0, .ref b)]) F.1.1 F.1.2.1 dL_law_415 hl (by decide) rfl (fun ls hl => ?_)
    refine lv_aload_n F.1.1 F.1.2.1 dL_law_417 rfl (lv_at hl 4 rfl) ?_
    refine va_calli (sx_runV (n := 0) (As := []) (rest := []) F hT 0 rfl rfl (mtTH0 l D cA (rd 0) (M1 0 0) (.ref (rd 1)) (.ref (rd 6)) (.ref (rd 12)) (.int (M1 0 4))) pz_thblind (fun U hU hW => ⟨by rw [hU]; exact hT, va_K.moved hW.alike F.2⟩) kw_1159 kw_1156 kw_60 kw_1157 kw_1158 ⟨by decide, by decide, by decide +kernel⟩ ⟨rfl, rfl, (Nat.le_of_ble_eq_true rfl), (Nat.le_of_ble_eq_true rfl)⟩ rfl hl.1 rfl (Nat.le_of_ble_eq_true rfl) dL_law_418 ⟨(Nat.le_of_ble_eq_true rfl), (Nat.le_of_ble_eq_true rfl)⟩) hS (fun _ _ h => h.elim) (fun _ h => h.elim) (fun r7 _ t H1 locs1 ht _ e7 _ hz ho hS1 => ?_)
    replace e7 := (e7.trans hq.1).symm
    subst e7
    replace hO := pz_keep hO (fun _ _ _ _ h => h) ho
    clear hS
    have hS := hS1
    clear hS1 ho hz
    refine lv_iload F.1.1 F.1.2.1 dL_law_421 (lv_at hl 1 rfl) ?_
    refine lv_icmp_eq (tgt := 428) F.1.1 F.1.2.1 dL_law_423 (by decide) (fun _ => ?_) (fun hc => absurd rfl hc)
    refine lv_iload F.1.1 F.1.2.1 dL_law_428 (lv_at hl 1 rfl) ?_
    refine lv_if_ne (tgt := 445) F.1.1 F.1.2.1 dL_law_430 (by decide) (fun hc => ?_) (fun hc => ?_)
    · refine lv_goto (tgt := 1781) F.1.1 F.1.2.1 dL_law_445 (by decide) ?_
      refine W.widen (k := 600002) (n := 7302232) (Nat.le_of_ble_eq_true rfl) (Nat.le_of_ble_eq_true rfl) ?_
      exact kk _ _ _ hS (lv_sub hl [2, 6] rfl)
    · have hc0 : c0 = 0 := hc
      refine lv_aload_n F.1.1 F.1.2.1 dL_law_433 rfl (lv_at hl 3 rfl) ?_
      refine lv_iconst (v := 0) F.1.1 F.1.2.1 dL_law_434 (by decide) ?_
      refine va_lald F.1.1 F.1.2.1 F.2 hO 0 6 rfl rfl (show vp_in 0 1 from by unfold vp_in; decide) dL_law_435 ?_
      refine W.eq (g2 := F0 m 436 ls [.long (g1 0)]) rfl ?_
      refine lv_iload F.1.1 F.1.2.1 dL_law_436 (lv_at hl 0 rfl) ?_
      refine lv_i2l (v := r6.toInt64) F.1.1 F.1.2.1 dL_law_438 rfl ?_
      refine W.lcmp F.1.1 F.1.2.1 dL_law_439 ?_
      refine lv_topi (fun r_439 er_439 => ?_)
      refine lv_if_eq (tgt := 445) F.1.1 F.1.2.1 dL_law_440 (by decide) (fun _ => ?_) (fun hc => absurd (by rw [er_439, e5v hc0, hq.2 hc0]; exact pz_cmp _) hc)
      refine lv_goto (tgt := 1781) F.1.1 F.1.2.1 dL_law_445 (by decide) ?_
      refine W.widen (k := 600002) (n := 7302232) (Nat.le_of_ble_eq_true rfl) (Nat.le_of_ble_eq_true rfl) ?_
      exact kk _ _ _ hS (lv_sub hl [2, 6] rfl)
-- ===== case 3: addTransition
set_option maxHeartbeats 8000000 in
set_option maxRecDepth 100000 in
theorem lc_3 {p : Program} {e : Env} {s : State} {m : MethodId} {below : List Frame} {meth : Method} {c : Code} (l : Launch) (hst : l.stackTraces = false) {b : Nat} {xs : Nat → Int32} {D : va_G} {cA : Nat → ClassId} {ad rd : Nat → Nat} {ao : Nat} {g : Nat → Int64} {H : Heap} {locs : List Loc} {Q : State → Prop} {ls : Array Slot}
    (F : pt_F p m c code 9 s #[Value.ref b] RL D cA) (hbl : b < s.heap.size) (hX : va_X b 6 xs s s.heap) (hZ : px_Z (fun q : Nat => s.heap.size ≤ q) s s.heap) (hN : rt_Zs (rd 13) (rd 14) (fun q : Nat => s.heap.size ≤ q) s s.heap) (hNc : pw_N s) (K : pz_K ad rd ao s.heap.size) (hS : va_S (fun q : Nat => s.heap.size ≤ q) s.heap H locs)
    (hP : va_P D pt_cl (pt_W cA ad pt_M0) H) (hPr : va_P D pt_cl (rt_W cA rd pz_M0) H) (hO : va_P D pt_cl (pw_O cA ao g) H) (hl : lv_has ls 9 [(4, .int 0), (3, .ref ao), (2, .ref (rd 0)), (1, .ref (ad 0)), (0, .ref b)])
    (c0 v0 : Int32) (hc : wpVX7_addTransition (fun X : String => (X = "java/lang/IllegalStateException" ∧ c0 = 1) ∨ (X = "java/lang/IndexOutOfBoundsException" ∧ c0 = 2) ∨ (X = "java/lang/IllegalArgumentException" ∧ c0 = 3)) (xs 1) (xs 2) (xs 3) (xs 4) pt_M0 (fun (r : Int32) (_ : pt_M) => c0 = 0 ∧ r = v0)) (hr : wpX12_addTransition (xs 1) (xs 2) (xs 3) (xs 4) pz_M0 (fun (r : Int32) (M : pt_M) => M 0 0 = c0 ∧ (c0 = 0 → r = v0)))
    (kk : ∀ (H1 : Heap) (locs1 : List Loc) (ls1 : Array Slot), va_S (fun q : Nat => s.heap.size ≤ q) s.heap H1 locs1 → lv_has ls1 9 [(4, .int 0), (0, .ref b)] → W p l e room_1 s m #[Value.ref b] below meth c H1 locs1 600002 7302232 Q (F0 m 1781 ls1 [])) : W p l e room_1 s m #[Value.ref b] below meth c H locs 401 4242 Q (F0 m 448 ls []) := by
  refine lv_aload_n F.1.1 F.1.2.1 dL_law_448 rfl (lv_at hl 3 rfl) ?_
  refine lv_aload_n F.1.1 F.1.2.1 dL_law_449 rfl (lv_at hl 4 rfl) ?_
  refine lv_iload F.1.1 F.1.2.1 dL_law_450 (lv_at hl 0 rfl) ?_
  refine lv_iconst (v := 1) F.1.1 F.1.2.1 dL_law_452 (by decide) ?_
  refine lv_iadd F.1.1 F.1.2.1 dL_law_453 ?_
  refine va_sld F.1.1 F.1.2.1 hX hbl (Nat.not_le.mpr hbl) hS (show vp_in (0 + 1) 6 from by unfold vp_in; decide) dL_law_454 ?_
  refine W.eq (g2 := F0 m 455 ls [.int (xs 1), .ref (ad 0)]) rfl ?_
  refine lv_aload_n F.1.1 F.1.2.1 dL_law_455 rfl (lv_at hl 4 rfl) ?_
  refine lv_iload F.1.1 F.1.2.1 dL_law_456 (lv_at hl 0 rfl) ?_
  refine lv_iconst (v := 2) F.1.1 F.1.2.1 dL_law_458 (by decide) ?_
  refine lv_iadd F.1.1 F.1.2.1 dL_law_459 ?_
  refine va_sld F.1.1 F.1.2.1 hX hbl (Nat.not_le.mpr hbl) hS (show vp_in (0 + 2) 6 from by unfold vp_in; decide) dL_law_460 ?_
  refine W.eq (g2 := F0 m 461 ls [.int (xs 2), .int (xs 1), .ref (ad 0)]) rfl ?_
  refine lv_aload_n F.1.1 F.1.2.1 dL_law_461 rfl (lv_at hl 4 rfl) ?_
  refine lv_iload F.1.1 F.1.2.1 dL_law_462 (lv_at hl 0 rfl) ?_
  refine lv_iconst (v := 3) F.1.1 F.1.2.1 dL_law_464 (by decide) ?_
  refine lv_iadd F.1.1 F.1.2.1 dL_law_465 ?_
  refine va_sld F.1.1 F.1.2.1 hX hbl (Nat.not_le.mpr hbl) hS (show vp_in (0 + 3) 6 from by unfold vp_in; decide) dL_law_466 ?_
  refine W.eq (g2 := F0 m 467 ls [.int (xs 3), .int (xs 2), .int (xs 1), .ref (ad 0)]) rfl ?_
  refine lv_aload_n F.1.1 F.1.2.1 dL_law_467 rfl (lv_at hl 4 rfl) ?_
  refine lv_iload F.1.1 F.1.2.1 dL_law_468 (lv_at hl 0 rfl) ?_
  refine lv_iconst (v := 4) F.1.1 F.1.2.1 dL_law_470 (by decide) ?_
  refine lv_iadd F.1.1 F.1.2.1 dL_law_471 ?_
  refine va_sld F.1.1 F.1.2.1 hX hbl (Nat.not_le.mpr hbl) hS (show vp_in (0 + 4) 6 from by unfold vp_in; decide) dL_law_472 ?_
  refine W.eq (g2 := F0 m 473 ls [.int (xs 4), .int (xs 3), .int (xs 2), .int (xs 1), .ref (ad 0)]) rfl ?_
  refine lv_aload_n F.1.1 F.1.2.1 dL_law_473 rfl (lv_at hl 1 rfl) ?_
  refine va_calli (pw_runS (n := 6) (As := [.ref (ad 0), .int (xs 1), .int (xs 2), .int (xs 3), .int (xs 4), .ref ao]) (rest := []) F (mtL_addTransition l hst D cA ad K.1 ao g _ (xs 1) (xs 2) (xs 3) (xs 4) pt_M0 c0 v0 hc) pw_blind (fun U hU hW => ⟨⟨by rw [hU], by rw [hU]; exact hP, va_K.moved hW.alike F.2⟩, by rw [hU]; exact px_Z.moved hW.alike ((hZ.kept hS.2.1).narrow (pz_fa K hS.1).1), by rw [hU]; exact hO, K.2.2.2.1, pw_N.moved hW.alike hNc⟩) kw_660 kw_658 kw_51 kw_659 ⟨by decide, by decide, by decide +kernel⟩ ⟨rfl, rfl, (Nat.le_of_ble_eq_true rfl), (Nat.le_of_ble_eq_true rfl)⟩ rfl hl.1 rfl (Nat.le_of_ble_eq_true rfl) dL_law_474 ⟨(Nat.le_of_ble_eq_true rfl), (Nat.le_of_ble_eq_true rfl)⟩) hS (fun q _ h => (pz_fa K hS.1).1 q h) (pz_fa K hS.1).1 (fun r5 g1 t H1 locs1 ht _ hq5 hB hz ho hS1 => ?_)
  obtain ⟨e5, e5v⟩ := hq5
  replace e5 := e5.symm
  subst e5
  rw [ht] at hB
  replace hPr := pz_r1 K hPr ho
  clear hO hP
  have hO := hB
  clear hB hS
  have hS := hS1
  clear hS1 ho hz
  refine W.widen (k := 404) (n := 4260) (Nat.le_of_ble_eq_true rfl) (Nat.le_of_ble_eq_true rfl) ?_
  refine lv_istore (lv' := [(5, .int c0), (4, .int 0), (3, .ref ao), (2, .ref (rd 0)), (1, .ref (ad 0)), (0, .ref b)]) F.1.1 F.1.2.1 dL_law_477 hl (by decide) rfl (fun ls hl => ?_)
  refine lv_aload_n F.1.1 F.1.2.1 dL_law_479 rfl (lv_at hl 3 rfl) ?_
  refine lv_aload_n F.1.1 F.1.2.1 dL_law_480 rfl (lv_at hl 5 rfl) ?_
  refine lv_iload F.1.1 F.1.2.1 dL_law_481 (lv_at hl 1 rfl) ?_
  refine lv_iconst (v := 1) F.1.1 F.1.2.1 dL_law_483 (by decide) ?_
  refine lv_iadd F.1.1 F.1.2.1 dL_law_484 ?_
  refine va_sld F.1.1 F.1.2.1 hX hbl (Nat.not_le.mpr hbl) hS (show vp_in (0 + 1) 6 from by unfold vp_in; decide) dL_law_485 ?_
  refine W.eq (g2 := F0 m 486 ls [.int (xs 1), .ref (rd 0)]) rfl ?_
  refine lv_aload_n F.1.1 F.1.2.1 dL_law_486 rfl (lv_at hl 5 rfl) ?_
  refine lv_iload F.1.1 F.1.2.1 dL_law_487 (lv_at hl 1 rfl) ?_
  refine lv_iconst (v := 2) F.1.1 F.1.2.1 dL_law_489 (by decide) ?_
  refine lv_iadd F.1.1 F.1.2.1 dL_law_490 ?_
  refine va_sld F.1.1 F.1.2.1 hX hbl (Nat.not_le.mpr hbl) hS (show vp_in (0 + 2) 6 from by unfold vp_in; decide) dL_law_491 ?_
  refine W.eq (g2 := F0 m 492 ls [.int (xs 2), .int (xs 1), .ref (rd 0)]) rfl ?_
  refine lv_aload_n F.1.1 F.1.2.1 dL_law_492 rfl (lv_at hl 5 rfl) ?_
  refine lv_iload F.1.1 F.1.2.1 dL_law_493 (lv_at hl 1 rfl) ?_
  refine lv_iconst (v := 3) F.1.1 F.1.2.1 dL_law_495 (by decide) ?_
  refine lv_iadd F.1.1 F.1.2.1 dL_law_496 ?_
  refine va_sld F.1.1 F.1.2.1 hX hbl (Nat.not_le.mpr hbl) hS (show vp_in (0 + 3) 6 from by unfold vp_in; decide) dL_law_497 ?_
  refine W.eq (g2 := F0 m 498 ls [.int (xs 3), .int (xs 2), .int (xs 1), .ref (rd 0)]) rfl ?_
  refine lv_aload_n F.1.1 F.1.2.1 dL_law_498 rfl (lv_at hl 5 rfl) ?_
  refine lv_iload F.1.1 F.1.2.1 dL_law_499 (lv_at hl 1 rfl) ?_
  refine lv_iconst (v := 4) F.1.1 F.1.2.1 dL_law_501 (by decide) ?_
  refine lv_iadd F.1.1 F.1.2.1 dL_law_502 ?_
  refine va_sld F.1.1 F.1.2.1 hX hbl (Nat.not_le.mpr hbl) hS (show vp_in (0 + 4) 6 from by unfold vp_in; decide) dL_law_503 ?_
  refine W.eq (g2 := F0 m 504 ls [.int (xs 4), .int (xs 3), .int (xs 2), .int (xs 1), .ref (rd 0)]) rfl ?_
  refine va_calli (rt_runVm (n := 4) (As := [.int (xs 1), .int (xs 2), .int (xs 3), .int (xs 4)]) (rest := []) F hPr hN hS (pz_fa K hS.1).2.1 (rt_c12 _ rt_k0) (rt_l12 rt_k0) rfl (mtX12_addTransition l D cA rd K.2.1 _ (xs 1) (xs 2) (xs 3) (xs 4) pz_M0 _ hr) kw_1248 kw_1245 kw_60 kw_1246 kw_1247 ⟨by decide, by decide, by decide +kernel⟩ ⟨rfl, rfl, (Nat.le_of_ble_eq_true rfl), (Nat.le_of_ble_eq_true rfl)⟩ rfl hl.1 rfl (Nat.le_of_ble_eq_true rfl) dL_law_504 ⟨(Nat.le_of_ble_eq_true rfl), (Nat.le_of_ble_eq_true rfl)⟩) hS (fun q _ h => (pz_fa K hS.1).2.1 q h) (pz_fa K hS.1).2.1 (fun r6 M1 t H1 locs1 ht _ hq hB hz ho hS1 => ?_)
  replace hO := pz_o1 K hO ho
  have hT : va_P D pt_cl [(rd 0, .inr (12, [.int (M1 0 0), .ref (rd 1), .ref (rd 6), .ref (rd 12), .int (M1 0 4)]))] H1 := by rw [← ht]; exact hB
  clear hS
  have hS := hS1
  clear hS1 ho hz hPr
  refine W.widen (k := 406) (n := 4276) (Nat.le_of_ble_eq_true rfl) (Nat.le_of_ble_eq_true rfl) ?_
  refine lv_istore (lv' := [(6, .int r6), (5, .int c0), (4, .int 0), (3, .ref ao), (2, .ref (rd 0)), (1, .ref (ad 0)), (0, .ref b)]) F.1.1 F.1.2.1 dL_law_507 hl (by decide) rfl (fun ls hl => ?_)
  refine lv_aload_n F.1.1 F.1.2.1 dL_law_509 rfl (lv_at hl 4 rfl) ?_
  refine va_calli (sx_runV (n := 0) (As := []) (rest := []) F hT 0 rfl rfl (mtTH0 l D cA (rd 0) (M1 0 0) (.ref (rd 1)) (.ref (rd 6)) (.ref (rd 12)) (.int (M1 0 4))) pz_thblind (fun U hU hW => ⟨by rw [hU]; exact hT, va_K.moved hW.alike F.2⟩) kw_1159 kw_1156 kw_60 kw_1157 kw_1158 ⟨by decide, by decide, by decide +kernel⟩ ⟨rfl, rfl, (Nat.le_of_ble_eq_true rfl), (Nat.le_of_ble_eq_true rfl)⟩ rfl hl.1 rfl (Nat.le_of_ble_eq_true rfl) dL_law_510 ⟨(Nat.le_of_ble_eq_true rfl), (Nat.le_of_ble_eq_true rfl)⟩) hS (fun _ _ h => h.elim) (fun _ h => h.elim) (fun r7 _ t H1 locs1 ht _ e7 _ hz ho hS1 => ?_)
  replace e7 := (e7.trans hq.1).symm
  subst e7
  replace hO := pz_keep hO (fun _ _ _ _ h => h) ho
  clear hS
  have hS := hS1
  clear hS1 ho hz
  refine lv_iload F.1.1 F.1.2.1 dL_law_513 (lv_at hl 1 rfl) ?_
  refine lv_icmp_eq (tgt := 520) F.1.1 F.1.2.1 dL_law_515 (by decide) (fun _ => ?_) (fun hc => absurd rfl hc)
  refine lv_iload F.1.1 F.1.2.1 dL_law_520 (lv_at hl 1 rfl) ?_
  refine lv_if_ne (tgt := 537) F.1.1 F.1.2.1 dL_law_522 (by decide) (fun hc => ?_) (fun hc => ?_)
  · refine lv_goto (tgt := 1781) F.1.1 F.1.2.1 dL_law_537 (by decide) ?_
    refine W.widen (k := 600002) (n := 7302232) (Nat.le_of_ble_eq_true rfl) (Nat.le_of_ble_eq_true rfl) ?_
    exact kk _ _ _ hS (lv_sub hl [2, 6] rfl)
  · have hc0 : c0 = 0 := hc
    refine lv_aload_n F.1.1 F.1.2.1 dL_law_525 rfl (lv_at hl 3 rfl) ?_
    refine lv_iconst (v := 0) F.1.1 F.1.2.1 dL_law_526 (by decide) ?_
    refine va_lald F.1.1 F.1.2.1 F.2 hO 0 6 rfl rfl (show vp_in 0 1 from by unfold vp_in; decide) dL_law_527 ?_
    refine W.eq (g2 := F0 m 528 ls [.long (g1 0)]) rfl ?_
    refine lv_iload F.1.1 F.1.2.1 dL_law_528 (lv_at hl 0 rfl) ?_
    refine lv_i2l (v := r6.toInt64) F.1.1 F.1.2.1 dL_law_530 rfl ?_
    refine W.lcmp F.1.1 F.1.2.1 dL_law_531 ?_
    refine lv_topi (fun r_531 er_531 => ?_)
    refine lv_if_eq (tgt := 537) F.1.1 F.1.2.1 dL_law_532 (by decide) (fun _ => ?_) (fun hc => absurd (by rw [er_531, e5v hc0, hq.2 hc0]; exact pz_cmp _) hc)
    refine lv_goto (tgt := 1781) F.1.1 F.1.2.1 dL_law_537 (by decide) ?_
    refine W.widen (k := 600002) (n := 7302232) (Nat.le_of_ble_eq_true rfl) (Nat.le_of_ble_eq_true rfl) ?_
    exact kk _ _ _ hS (lv_sub hl [2, 6] rfl)
-- ===== case 4: setGuard
set_option maxHeartbeats 8000000 in
set_option maxRecDepth 100000 in
theorem lc_4 {p : Program} {e : Env} {s : State} {m : MethodId} {below : List Frame} {meth : Method} {c : Code} (l : Launch) (hst : l.stackTraces = false) {b : Nat} {xs : Nat → Int32} {D : va_G} {cA : Nat → ClassId} {ad rd : Nat → Nat} {ao : Nat} {g : Nat → Int64} {H : Heap} {locs : List Loc} {Q : State → Prop} {ls : Array Slot}
    (F : pt_F p m c code 9 s #[Value.ref b] RL D cA) (hbl : b < s.heap.size) (hX : va_X b 6 xs s s.heap) (hZ : px_Z (fun q : Nat => s.heap.size ≤ q) s s.heap) (hN : rt_Zs (rd 13) (rd 14) (fun q : Nat => s.heap.size ≤ q) s s.heap) (hNc : pw_N s) (K : pz_K ad rd ao s.heap.size) (hS : va_S (fun q : Nat => s.heap.size ≤ q) s.heap H locs)
    (hP : va_P D pt_cl (pt_W cA ad pt_M0) H) (hPr : va_P D pt_cl (rt_W cA rd pz_M0) H) (hO : va_P D pt_cl (pw_O cA ao g) H) (hl : lv_has ls 9 [(4, .int 0), (3, .ref ao), (2, .ref (rd 0)), (1, .ref (ad 0)), (0, .ref b)])
    (c0 v0 : Int32) (hc : wpVX7_setGuard (fun X : String => (X = "java/lang/IllegalStateException" ∧ c0 = 1) ∨ (X = "java/lang/IndexOutOfBoundsException" ∧ c0 = 2) ∨ (X = "java/lang/IllegalArgumentException" ∧ c0 = 3)) (xs 1) (xs 2) (xs 3) (xs 4) pt_M0 (fun (r : Int32) (_ : pt_M) => c0 = 0 ∧ r = v0)) (hr : wpX12_setGuard (xs 1) (xs 2) (xs 3) (xs 4) pz_M0 (fun (r : Int32) (M : pt_M) => M 0 0 = c0 ∧ (c0 = 0 → r = v0)))
    (kk : ∀ (H1 : Heap) (locs1 : List Loc) (ls1 : Array Slot), va_S (fun q : Nat => s.heap.size ≤ q) s.heap H1 locs1 → lv_has ls1 9 [(4, .int 0), (0, .ref b)] → W p l e room_1 s m #[Value.ref b] below meth c H1 locs1 600002 7302232 Q (F0 m 1781 ls1 [])) : W p l e room_1 s m #[Value.ref b] below meth c H locs 401 4242 Q (F0 m 540 ls []) := by
  refine lv_aload_n F.1.1 F.1.2.1 dL_law_540 rfl (lv_at hl 3 rfl) ?_
  refine lv_aload_n F.1.1 F.1.2.1 dL_law_541 rfl (lv_at hl 4 rfl) ?_
  refine lv_iload F.1.1 F.1.2.1 dL_law_542 (lv_at hl 0 rfl) ?_
  refine lv_iconst (v := 1) F.1.1 F.1.2.1 dL_law_544 (by decide) ?_
  refine lv_iadd F.1.1 F.1.2.1 dL_law_545 ?_
  refine va_sld F.1.1 F.1.2.1 hX hbl (Nat.not_le.mpr hbl) hS (show vp_in (0 + 1) 6 from by unfold vp_in; decide) dL_law_546 ?_
  refine W.eq (g2 := F0 m 547 ls [.int (xs 1), .ref (ad 0)]) rfl ?_
  refine lv_aload_n F.1.1 F.1.2.1 dL_law_547 rfl (lv_at hl 4 rfl) ?_
  refine lv_iload F.1.1 F.1.2.1 dL_law_548 (lv_at hl 0 rfl) ?_
  refine lv_iconst (v := 2) F.1.1 F.1.2.1 dL_law_550 (by decide) ?_
  refine lv_iadd F.1.1 F.1.2.1 dL_law_551 ?_
  refine va_sld F.1.1 F.1.2.1 hX hbl (Nat.not_le.mpr hbl) hS (show vp_in (0 + 2) 6 from by unfold vp_in; decide) dL_law_552 ?_
  refine W.eq (g2 := F0 m 553 ls [.int (xs 2), .int (xs 1), .ref (ad 0)]) rfl ?_
  refine lv_aload_n F.1.1 F.1.2.1 dL_law_553 rfl (lv_at hl 4 rfl) ?_
  refine lv_iload F.1.1 F.1.2.1 dL_law_554 (lv_at hl 0 rfl) ?_
  refine lv_iconst (v := 3) F.1.1 F.1.2.1 dL_law_556 (by decide) ?_
  refine lv_iadd F.1.1 F.1.2.1 dL_law_557 ?_
  refine va_sld F.1.1 F.1.2.1 hX hbl (Nat.not_le.mpr hbl) hS (show vp_in (0 + 3) 6 from by unfold vp_in; decide) dL_law_558 ?_
  refine W.eq (g2 := F0 m 559 ls [.int (xs 3), .int (xs 2), .int (xs 1), .ref (ad 0)]) rfl ?_
  refine lv_aload_n F.1.1 F.1.2.1 dL_law_559 rfl (lv_at hl 4 rfl) ?_
  refine lv_iload F.1.1 F.1.2.1 dL_law_560 (lv_at hl 0 rfl) ?_
  refine lv_iconst (v := 4) F.1.1 F.1.2.1 dL_law_562 (by decide) ?_
  refine lv_iadd F.1.1 F.1.2.1 dL_law_563 ?_
  refine va_sld F.1.1 F.1.2.1 hX hbl (Nat.not_le.mpr hbl) hS (show vp_in (0 + 4) 6 from by unfold vp_in; decide) dL_law_564 ?_
  refine W.eq (g2 := F0 m 565 ls [.int (xs 4), .int (xs 3), .int (xs 2), .int (xs 1), .ref (ad 0)]) rfl ?_
  refine lv_aload_n F.1.1 F.1.2.1 dL_law_565 rfl (lv_at hl 1 rfl) ?_
  refine va_calli (pw_runS (n := 6) (As := [.ref (ad 0), .int (xs 1), .int (xs 2), .int (xs 3), .int (xs 4), .ref ao]) (rest := []) F (mtL_setGuard l hst D cA ad K.1 ao g _ (xs 1) (xs 2) (xs 3) (xs 4) pt_M0 c0 v0 hc) pw_blind (fun U hU hW => ⟨⟨by rw [hU], by rw [hU]; exact hP, va_K.moved hW.alike F.2⟩, by rw [hU]; exact px_Z.moved hW.alike ((hZ.kept hS.2.1).narrow (pz_fa K hS.1).1), by rw [hU]; exact hO, K.2.2.2.1, pw_N.moved hW.alike hNc⟩) kw_681 kw_679 kw_51 kw_680 ⟨by decide, by decide, by decide +kernel⟩ ⟨rfl, rfl, (Nat.le_of_ble_eq_true rfl), (Nat.le_of_ble_eq_true rfl)⟩ rfl hl.1 rfl (Nat.le_of_ble_eq_true rfl) dL_law_566 ⟨(Nat.le_of_ble_eq_true rfl), (Nat.le_of_ble_eq_true rfl)⟩) hS (fun q _ h => (pz_fa K hS.1).1 q h) (pz_fa K hS.1).1 (fun r5 g1 t H1 locs1 ht _ hq5 hB hz ho hS1 => ?_)
  obtain ⟨e5, e5v⟩ := hq5
  replace e5 := e5.symm
  subst e5
  rw [ht] at hB
  replace hPr := pz_r1 K hPr ho
  clear hO hP
  have hO := hB
  clear hB hS
  have hS := hS1
  clear hS1 ho hz
  refine W.widen (k := 404) (n := 4260) (Nat.le_of_ble_eq_true rfl) (Nat.le_of_ble_eq_true rfl) ?_
  refine lv_istore (lv' := [(5, .int c0), (4, .int 0), (3, .ref ao), (2, .ref (rd 0)), (1, .ref (ad 0)), (0, .ref b)]) F.1.1 F.1.2.1 dL_law_569 hl (by decide) rfl (fun ls hl => ?_)
  refine lv_aload_n F.1.1 F.1.2.1 dL_law_571 rfl (lv_at hl 3 rfl) ?_
  refine lv_aload_n F.1.1 F.1.2.1 dL_law_572 rfl (lv_at hl 5 rfl) ?_
  refine lv_iload F.1.1 F.1.2.1 dL_law_573 (lv_at hl 1 rfl) ?_
  refine lv_iconst (v := 1) F.1.1 F.1.2.1 dL_law_575 (by decide) ?_
  refine lv_iadd F.1.1 F.1.2.1 dL_law_576 ?_
  refine va_sld F.1.1 F.1.2.1 hX hbl (Nat.not_le.mpr hbl) hS (show vp_in (0 + 1) 6 from by unfold vp_in; decide) dL_law_577 ?_
  refine W.eq (g2 := F0 m 578 ls [.int (xs 1), .ref (rd 0)]) rfl ?_
  refine lv_aload_n F.1.1 F.1.2.1 dL_law_578 rfl (lv_at hl 5 rfl) ?_
  refine lv_iload F.1.1 F.1.2.1 dL_law_579 (lv_at hl 1 rfl) ?_
  refine lv_iconst (v := 2) F.1.1 F.1.2.1 dL_law_581 (by decide) ?_
  refine lv_iadd F.1.1 F.1.2.1 dL_law_582 ?_
  refine va_sld F.1.1 F.1.2.1 hX hbl (Nat.not_le.mpr hbl) hS (show vp_in (0 + 2) 6 from by unfold vp_in; decide) dL_law_583 ?_
  refine W.eq (g2 := F0 m 584 ls [.int (xs 2), .int (xs 1), .ref (rd 0)]) rfl ?_
  refine lv_aload_n F.1.1 F.1.2.1 dL_law_584 rfl (lv_at hl 5 rfl) ?_
  refine lv_iload F.1.1 F.1.2.1 dL_law_585 (lv_at hl 1 rfl) ?_
  refine lv_iconst (v := 3) F.1.1 F.1.2.1 dL_law_587 (by decide) ?_
  refine lv_iadd F.1.1 F.1.2.1 dL_law_588 ?_
  refine va_sld F.1.1 F.1.2.1 hX hbl (Nat.not_le.mpr hbl) hS (show vp_in (0 + 3) 6 from by unfold vp_in; decide) dL_law_589 ?_
  refine W.eq (g2 := F0 m 590 ls [.int (xs 3), .int (xs 2), .int (xs 1), .ref (rd 0)]) rfl ?_
  refine lv_aload_n F.1.1 F.1.2.1 dL_law_590 rfl (lv_at hl 5 rfl) ?_
  refine lv_iload F.1.1 F.1.2.1 dL_law_591 (lv_at hl 1 rfl) ?_
  refine lv_iconst (v := 4) F.1.1 F.1.2.1 dL_law_593 (by decide) ?_
  refine lv_iadd F.1.1 F.1.2.1 dL_law_594 ?_
  refine va_sld F.1.1 F.1.2.1 hX hbl (Nat.not_le.mpr hbl) hS (show vp_in (0 + 4) 6 from by unfold vp_in; decide) dL_law_595 ?_
  refine W.eq (g2 := F0 m 596 ls [.int (xs 4), .int (xs 3), .int (xs 2), .int (xs 1), .ref (rd 0)]) rfl ?_
  refine va_calli (rt_runVm (n := 4) (As := [.int (xs 1), .int (xs 2), .int (xs 3), .int (xs 4)]) (rest := []) F hPr hN hS (pz_fa K hS.1).2.1 (rt_c12 _ rt_k0) (rt_l12 rt_k0) rfl (mtX12_setGuard l D cA rd K.2.1 _ (xs 1) (xs 2) (xs 3) (xs 4) pz_M0 _ hr) kw_1288 kw_1285 kw_60 kw_1286 kw_1287 ⟨by decide, by decide, by decide +kernel⟩ ⟨rfl, rfl, (Nat.le_of_ble_eq_true rfl), (Nat.le_of_ble_eq_true rfl)⟩ rfl hl.1 rfl (Nat.le_of_ble_eq_true rfl) dL_law_596 ⟨(Nat.le_of_ble_eq_true rfl), (Nat.le_of_ble_eq_true rfl)⟩) hS (fun q _ h => (pz_fa K hS.1).2.1 q h) (pz_fa K hS.1).2.1 (fun r6 M1 t H1 locs1 ht _ hq hB hz ho hS1 => ?_)
  replace hO := pz_o1 K hO ho
  have hT : va_P D pt_cl [(rd 0, .inr (12, [.int (M1 0 0), .ref (rd 1), .ref (rd 6), .ref (rd 12), .int (M1 0 4)]))] H1 := by rw [← ht]; exact va_P.sub hB [0] rfl
  clear hS
  have hS := hS1
  clear hS1 ho hz hPr
  refine lv_istore (lv' := [(6, .int r6), (5, .int c0), (4, .int 0), (3, .ref ao), (2, .ref (rd 0)), (1, .ref (ad 0)), (0, .ref b)]) F.1.1 F.1.2.1 dL_law_599 hl (by decide) rfl (fun ls hl => ?_)
  refine lv_aload_n F.1.1 F.1.2.1 dL_law_601 rfl (lv_at hl 4 rfl) ?_
  refine va_calli (sx_runV (n := 0) (As := []) (rest := []) F hT 0 rfl rfl (mtTH0 l D cA (rd 0) (M1 0 0) (.ref (rd 1)) (.ref (rd 6)) (.ref (rd 12)) (.int (M1 0 4))) pz_thblind (fun U hU hW => ⟨by rw [hU]; exact hT, va_K.moved hW.alike F.2⟩) kw_1159 kw_1156 kw_60 kw_1157 kw_1158 ⟨by decide, by decide, by decide +kernel⟩ ⟨rfl, rfl, (Nat.le_of_ble_eq_true rfl), (Nat.le_of_ble_eq_true rfl)⟩ rfl hl.1 rfl (Nat.le_of_ble_eq_true rfl) dL_law_602 ⟨(Nat.le_of_ble_eq_true rfl), (Nat.le_of_ble_eq_true rfl)⟩) hS (fun _ _ h => h.elim) (fun _ h => h.elim) (fun r7 _ t H1 locs1 ht _ e7 _ hz ho hS1 => ?_)
  replace e7 := (e7.trans hq.1).symm
  subst e7
  replace hO := pz_keep hO (fun _ _ _ _ h => h) ho
  clear hS
  have hS := hS1
  clear hS1 ho hz
  refine lv_iload F.1.1 F.1.2.1 dL_law_605 (lv_at hl 1 rfl) ?_
  refine lv_icmp_eq (tgt := 612) F.1.1 F.1.2.1 dL_law_607 (by decide) (fun _ => ?_) (fun hc => absurd rfl hc)
  refine lv_iload F.1.1 F.1.2.1 dL_law_612 (lv_at hl 1 rfl) ?_
  refine lv_if_ne (tgt := 629) F.1.1 F.1.2.1 dL_law_614 (by decide) (fun hc => ?_) (fun hc => ?_)
  · refine lv_goto (tgt := 1781) F.1.1 F.1.2.1 dL_law_629 (by decide) ?_
    refine W.widen (k := 600002) (n := 7302232) (Nat.le_of_ble_eq_true rfl) (Nat.le_of_ble_eq_true rfl) ?_
    exact kk _ _ _ hS (lv_sub hl [2, 6] rfl)
  · have hc0 : c0 = 0 := hc
    refine lv_aload_n F.1.1 F.1.2.1 dL_law_617 rfl (lv_at hl 3 rfl) ?_
    refine lv_iconst (v := 0) F.1.1 F.1.2.1 dL_law_618 (by decide) ?_
    refine va_lald F.1.1 F.1.2.1 F.2 hO 0 6 rfl rfl (show vp_in 0 1 from by unfold vp_in; decide) dL_law_619 ?_
    refine W.eq (g2 := F0 m 620 ls [.long (g1 0)]) rfl ?_
    refine lv_iload F.1.1 F.1.2.1 dL_law_620 (lv_at hl 0 rfl) ?_
    refine lv_i2l (v := r6.toInt64) F.1.1 F.1.2.1 dL_law_622 rfl ?_
    refine W.lcmp F.1.1 F.1.2.1 dL_law_623 ?_
    refine lv_topi (fun r_623 er_623 => ?_)
    refine lv_if_eq (tgt := 629) F.1.1 F.1.2.1 dL_law_624 (by decide) (fun _ => ?_) (fun hc => absurd (by rw [er_623, e5v hc0, hq.2 hc0]; exact pz_cmp _) hc)
    refine lv_goto (tgt := 1781) F.1.1 F.1.2.1 dL_law_629 (by decide) ?_
    refine W.widen (k := 600002) (n := 7302232) (Nat.le_of_ble_eq_true rfl) (Nat.le_of_ble_eq_true rfl) ?_
    exact kk _ _ _ hS (lv_sub hl [2, 6] rfl)
-- ===== case 5: setAction
set_option maxHeartbeats 8000000 in
set_option maxRecDepth 100000 in
theorem lc_5 {p : Program} {e : Env} {s : State} {m : MethodId} {below : List Frame} {meth : Method} {c : Code} (l : Launch) (hst : l.stackTraces = false) {b : Nat} {xs : Nat → Int32} {D : va_G} {cA : Nat → ClassId} {ad rd : Nat → Nat} {ao : Nat} {g : Nat → Int64} {H : Heap} {locs : List Loc} {Q : State → Prop} {ls : Array Slot}
    (F : pt_F p m c code 9 s #[Value.ref b] RL D cA) (hbl : b < s.heap.size) (hX : va_X b 6 xs s s.heap) (hZ : px_Z (fun q : Nat => s.heap.size ≤ q) s s.heap) (hN : rt_Zs (rd 13) (rd 14) (fun q : Nat => s.heap.size ≤ q) s s.heap) (hNc : pw_N s) (K : pz_K ad rd ao s.heap.size) (hS : va_S (fun q : Nat => s.heap.size ≤ q) s.heap H locs)
    (hP : va_P D pt_cl (pt_W cA ad pt_M0) H) (hPr : va_P D pt_cl (rt_W cA rd pz_M0) H) (hO : va_P D pt_cl (pw_O cA ao g) H) (hl : lv_has ls 9 [(4, .int 0), (3, .ref ao), (2, .ref (rd 0)), (1, .ref (ad 0)), (0, .ref b)])
    (c0 v0 : Int32) (hc : wpVX7_setAction (fun X : String => (X = "java/lang/IllegalStateException" ∧ c0 = 1) ∨ (X = "java/lang/IndexOutOfBoundsException" ∧ c0 = 2) ∨ (X = "java/lang/IllegalArgumentException" ∧ c0 = 3)) (xs 1) (xs 2) (xs 3) (xs 4) pt_M0 (fun (r : Int32) (_ : pt_M) => c0 = 0 ∧ r = v0)) (hr : wpX12_setAction (xs 1) (xs 2) (xs 3) (xs 4) pz_M0 (fun (r : Int32) (M : pt_M) => M 0 0 = c0 ∧ (c0 = 0 → r = v0)))
    (kk : ∀ (H1 : Heap) (locs1 : List Loc) (ls1 : Array Slot), va_S (fun q : Nat => s.heap.size ≤ q) s.heap H1 locs1 → lv_has ls1 9 [(4, .int 0), (0, .ref b)] → W p l e room_1 s m #[Value.ref b] below meth c H1 locs1 600002 7302232 Q (F0 m 1781 ls1 [])) : W p l e room_1 s m #[Value.ref b] below meth c H locs 401 4242 Q (F0 m 632 ls []) := by
  refine lv_aload_n F.1.1 F.1.2.1 dL_law_632 rfl (lv_at hl 3 rfl) ?_
  refine lv_aload_n F.1.1 F.1.2.1 dL_law_633 rfl (lv_at hl 4 rfl) ?_
  refine lv_iload F.1.1 F.1.2.1 dL_law_634 (lv_at hl 0 rfl) ?_
  refine lv_iconst (v := 1) F.1.1 F.1.2.1 dL_law_636 (by decide) ?_
  refine lv_iadd F.1.1 F.1.2.1 dL_law_637 ?_
  refine va_sld F.1.1 F.1.2.1 hX hbl (Nat.not_le.mpr hbl) hS (show vp_in (0 + 1) 6 from by unfold vp_in; decide) dL_law_638 ?_
  refine W.eq (g2 := F0 m 639 ls [.int (xs 1), .ref (ad 0)]) rfl ?_
  refine lv_aload_n F.1.1 F.1.2.1 dL_law_639 rfl (lv_at hl 4 rfl) ?_
  refine lv_iload F.1.1 F.1.2.1 dL_law_640 (lv_at hl 0 rfl) ?_
  refine lv_iconst (v := 2) F.1.1 F.1.2.1 dL_law_642 (by decide) ?_
  refine lv_iadd F.1.1 F.1.2.1 dL_law_643 ?_
  refine va_sld F.1.1 F.1.2.1 hX hbl (Nat.not_le.mpr hbl) hS (show vp_in (0 + 2) 6 from by unfold vp_in; decide) dL_law_644 ?_
  refine W.eq (g2 := F0 m 645 ls [.int (xs 2), .int (xs 1), .ref (ad 0)]) rfl ?_
  refine lv_aload_n F.1.1 F.1.2.1 dL_law_645 rfl (lv_at hl 4 rfl) ?_
  refine lv_iload F.1.1 F.1.2.1 dL_law_646 (lv_at hl 0 rfl) ?_
  refine lv_iconst (v := 3) F.1.1 F.1.2.1 dL_law_648 (by decide) ?_
  refine lv_iadd F.1.1 F.1.2.1 dL_law_649 ?_
  refine va_sld F.1.1 F.1.2.1 hX hbl (Nat.not_le.mpr hbl) hS (show vp_in (0 + 3) 6 from by unfold vp_in; decide) dL_law_650 ?_
  refine W.eq (g2 := F0 m 651 ls [.int (xs 3), .int (xs 2), .int (xs 1), .ref (ad 0)]) rfl ?_
  refine lv_aload_n F.1.1 F.1.2.1 dL_law_651 rfl (lv_at hl 4 rfl) ?_
  refine lv_iload F.1.1 F.1.2.1 dL_law_652 (lv_at hl 0 rfl) ?_
  refine lv_iconst (v := 4) F.1.1 F.1.2.1 dL_law_654 (by decide) ?_
  refine lv_iadd F.1.1 F.1.2.1 dL_law_655 ?_
  refine va_sld F.1.1 F.1.2.1 hX hbl (Nat.not_le.mpr hbl) hS (show vp_in (0 + 4) 6 from by unfold vp_in; decide) dL_law_656 ?_
  refine W.eq (g2 := F0 m 657 ls [.int (xs 4), .int (xs 3), .int (xs 2), .int (xs 1), .ref (ad 0)]) rfl ?_
  refine lv_aload_n F.1.1 F.1.2.1 dL_law_657 rfl (lv_at hl 1 rfl) ?_
  refine va_calli (pw_runS (n := 6) (As := [.ref (ad 0), .int (xs 1), .int (xs 2), .int (xs 3), .int (xs 4), .ref ao]) (rest := []) F (mtL_setAction l hst D cA ad K.1 ao g _ (xs 1) (xs 2) (xs 3) (xs 4) pt_M0 c0 v0 hc) pw_blind (fun U hU hW => ⟨⟨by rw [hU], by rw [hU]; exact hP, va_K.moved hW.alike F.2⟩, by rw [hU]; exact px_Z.moved hW.alike ((hZ.kept hS.2.1).narrow (pz_fa K hS.1).1), by rw [hU]; exact hO, K.2.2.2.1, pw_N.moved hW.alike hNc⟩) kw_691 kw_689 kw_51 kw_690 ⟨by decide, by decide, by decide +kernel⟩ ⟨rfl, rfl, (Nat.le_of_ble_eq_true rfl), (Nat.le_of_ble_eq_true rfl)⟩ rfl hl.1 rfl (Nat.le_of_ble_eq_true rfl) dL_law_658 ⟨(Nat.le_of_ble_eq_true rfl), (Nat.le_of_ble_eq_true rfl)⟩) hS (fun q _ h => (pz_fa K hS.1).1 q h) (pz_fa K hS.1).1 (fun r5 g1 t H1 locs1 ht _ hq5 hB hz ho hS1 => ?_)
  obtain ⟨e5, e5v⟩ := hq5
  replace e5 := e5.symm
  subst e5
  rw [ht] at hB
  replace hPr := pz_r1 K hPr ho
  clear hO hP
  have hO := hB
  clear hB hS
  have hS := hS1
  clear hS1 ho hz
  refine W.widen (k := 404) (n := 4260) (Nat.le_of_ble_eq_true rfl) (Nat.le_of_ble_eq_true rfl) ?_
  refine lv_istore (lv' := [(5, .int c0), (4, .int 0), (3, .ref ao), (2, .ref (rd 0)), (1, .ref (ad 0)), (0, .ref b)]) F.1.1 F.1.2.1 dL_law_661 hl (by decide) rfl (fun ls hl => ?_)
  refine lv_aload_n F.1.1 F.1.2.1 dL_law_663 rfl (lv_at hl 3 rfl) ?_
  refine lv_aload_n F.1.1 F.1.2.1 dL_law_664 rfl (lv_at hl 5 rfl) ?_
  refine lv_iload F.1.1 F.1.2.1 dL_law_665 (lv_at hl 1 rfl) ?_
  refine lv_iconst (v := 1) F.1.1 F.1.2.1 dL_law_667 (by decide) ?_
  refine lv_iadd F.1.1 F.1.2.1 dL_law_668 ?_
  refine va_sld F.1.1 F.1.2.1 hX hbl (Nat.not_le.mpr hbl) hS (show vp_in (0 + 1) 6 from by unfold vp_in; decide) dL_law_669 ?_
  refine W.eq (g2 := F0 m 670 ls [.int (xs 1), .ref (rd 0)]) rfl ?_
  refine lv_aload_n F.1.1 F.1.2.1 dL_law_670 rfl (lv_at hl 5 rfl) ?_
  refine lv_iload F.1.1 F.1.2.1 dL_law_671 (lv_at hl 1 rfl) ?_
  refine lv_iconst (v := 2) F.1.1 F.1.2.1 dL_law_673 (by decide) ?_
  refine lv_iadd F.1.1 F.1.2.1 dL_law_674 ?_
  refine va_sld F.1.1 F.1.2.1 hX hbl (Nat.not_le.mpr hbl) hS (show vp_in (0 + 2) 6 from by unfold vp_in; decide) dL_law_675 ?_
  refine W.eq (g2 := F0 m 676 ls [.int (xs 2), .int (xs 1), .ref (rd 0)]) rfl ?_
  refine lv_aload_n F.1.1 F.1.2.1 dL_law_676 rfl (lv_at hl 5 rfl) ?_
  refine lv_iload F.1.1 F.1.2.1 dL_law_677 (lv_at hl 1 rfl) ?_
  refine lv_iconst (v := 3) F.1.1 F.1.2.1 dL_law_679 (by decide) ?_
  refine lv_iadd F.1.1 F.1.2.1 dL_law_680 ?_
  refine va_sld F.1.1 F.1.2.1 hX hbl (Nat.not_le.mpr hbl) hS (show vp_in (0 + 3) 6 from by unfold vp_in; decide) dL_law_681 ?_
  refine W.eq (g2 := F0 m 682 ls [.int (xs 3), .int (xs 2), .int (xs 1), .ref (rd 0)]) rfl ?_
  refine lv_aload_n F.1.1 F.1.2.1 dL_law_682 rfl (lv_at hl 5 rfl) ?_
  refine lv_iload F.1.1 F.1.2.1 dL_law_683 (lv_at hl 1 rfl) ?_
  refine lv_iconst (v := 4) F.1.1 F.1.2.1 dL_law_685 (by decide) ?_
  refine lv_iadd F.1.1 F.1.2.1 dL_law_686 ?_
  refine va_sld F.1.1 F.1.2.1 hX hbl (Nat.not_le.mpr hbl) hS (show vp_in (0 + 4) 6 from by unfold vp_in; decide) dL_law_687 ?_
  refine W.eq (g2 := F0 m 688 ls [.int (xs 4), .int (xs 3), .int (xs 2), .int (xs 1), .ref (rd 0)]) rfl ?_
  refine va_calli (rt_runVm (n := 4) (As := [.int (xs 1), .int (xs 2), .int (xs 3), .int (xs 4)]) (rest := []) F hPr hN hS (pz_fa K hS.1).2.1 (rt_c12 _ rt_k0) (rt_l12 rt_k0) rfl (mtX12_setAction l D cA rd K.2.1 _ (xs 1) (xs 2) (xs 3) (xs 4) pz_M0 _ hr) kw_1296 kw_1293 kw_60 kw_1294 kw_1295 ⟨by decide, by decide, by decide +kernel⟩ ⟨rfl, rfl, (Nat.le_of_ble_eq_true rfl), (Nat.le_of_ble_eq_true rfl)⟩ rfl hl.1 rfl (Nat.le_of_ble_eq_true rfl) dL_law_688 ⟨(Nat.le_of_ble_eq_true rfl), (Nat.le_of_ble_eq_true rfl)⟩) hS (fun q _ h => (pz_fa K hS.1).2.1 q h) (pz_fa K hS.1).2.1 (fun r6 M1 t H1 locs1 ht _ hq hB hz ho hS1 => ?_)
  replace hO := pz_o1 K hO ho
  have hT : va_P D pt_cl [(rd 0, .inr (12, [.int (M1 0 0), .ref (rd 1), .ref (rd 6), .ref (rd 12), .int (M1 0 4)]))] H1 := by rw [← ht]; exact va_P.sub hB [0] rfl
  clear hS
  have hS := hS1
  clear hS1 ho hz hPr
  refine lv_istore (lv' := [(6, .int r6), (5, .int c0), (4, .int 0), (3, .ref ao), (2, .ref (rd 0)), (1, .ref (ad 0)), (0, .ref b)]) F.1.1 F.1.2.1 dL_law_691 hl (by decide) rfl (fun ls hl => ?_)
  refine lv_aload_n F.1.1 F.1.2.1 dL_law_693 rfl (lv_at hl 4 rfl) ?_
  refine va_calli (sx_runV (n := 0) (As := []) (rest := []) F hT 0 rfl rfl (mtTH0 l D cA (rd 0) (M1 0 0) (.ref (rd 1)) (.ref (rd 6)) (.ref (rd 12)) (.int (M1 0 4))) pz_thblind (fun U hU hW => ⟨by rw [hU]; exact hT, va_K.moved hW.alike F.2⟩) kw_1159 kw_1156 kw_60 kw_1157 kw_1158 ⟨by decide, by decide, by decide +kernel⟩ ⟨rfl, rfl, (Nat.le_of_ble_eq_true rfl), (Nat.le_of_ble_eq_true rfl)⟩ rfl hl.1 rfl (Nat.le_of_ble_eq_true rfl) dL_law_694 ⟨(Nat.le_of_ble_eq_true rfl), (Nat.le_of_ble_eq_true rfl)⟩) hS (fun _ _ h => h.elim) (fun _ h => h.elim) (fun r7 _ t H1 locs1 ht _ e7 _ hz ho hS1 => ?_)
  replace e7 := (e7.trans hq.1).symm
  subst e7
  replace hO := pz_keep hO (fun _ _ _ _ h => h) ho
  clear hS
  have hS := hS1
  clear hS1 ho hz
  refine lv_iload F.1.1 F.1.2.1 dL_law_697 (lv_at hl 1 rfl) ?_
  refine lv_icmp_eq (tgt := 704) F.1.1 F.1.2.1 dL_law_699 (by decide) (fun _ => ?_) (fun hc => absurd rfl hc)
  refine lv_iload F.1.1 F.1.2.1 dL_law_704 (lv_at hl 1 rfl) ?_
  refine lv_if_ne (tgt := 721) F.1.1 F.1.2.1 dL_law_706 (by decide) (fun hc => ?_) (fun hc => ?_)
  · refine lv_goto (tgt := 1781) F.1.1 F.1.2.1 dL_law_721 (by decide) ?_
    refine W.widen (k := 600002) (n := 7302232) (Nat.le_of_ble_eq_true rfl) (Nat.le_of_ble_eq_true rfl) ?_
    exact kk _ _ _ hS (lv_sub hl [2, 6] rfl)
  · have hc0 : c0 = 0 := hc
    refine lv_aload_n F.1.1 F.1.2.1 dL_law_709 rfl (lv_at hl 3 rfl) ?_
    refine lv_iconst (v := 0) F.1.1 F.1.2.1 dL_law_710 (by decide) ?_
    refine va_lald F.1.1 F.1.2.1 F.2 hO 0 6 rfl rfl (show vp_in 0 1 from by unfold vp_in; decide) dL_law_711 ?_
    refine W.eq (g2 := F0 m 712 ls [.long (g1 0)]) rfl ?_
    refine lv_iload F.1.1 F.1.2.1 dL_law_712 (lv_at hl 0 rfl) ?_
    refine lv_i2l (v := r6.toInt64) F.1.1 F.1.2.1 dL_law_714 rfl ?_
    refine W.lcmp F.1.1 F.1.2.1 dL_law_715 ?_
    refine lv_topi (fun r_715 er_715 => ?_)
    refine lv_if_eq (tgt := 721) F.1.1 F.1.2.1 dL_law_716 (by decide) (fun _ => ?_) (fun hc => absurd (by rw [er_715, e5v hc0, hq.2 hc0]; exact pz_cmp _) hc)
    refine lv_goto (tgt := 1781) F.1.1 F.1.2.1 dL_law_721 (by decide) ?_
    refine W.widen (k := 600002) (n := 7302232) (Nat.le_of_ble_eq_true rfl) (Nat.le_of_ble_eq_true rfl) ?_
    exact kk _ _ _ hS (lv_sub hl [2, 6] rfl)
-- ===== case 6: start
set_option maxHeartbeats 8000000 in
set_option maxRecDepth 100000 in
theorem lc_6 {p : Program} {e : Env} {s : State} {m : MethodId} {below : List Frame} {meth : Method} {c : Code} (l : Launch) (hst : l.stackTraces = false) {b : Nat} {xs : Nat → Int32} {D : va_G} {cA : Nat → ClassId} {ad rd : Nat → Nat} {ao : Nat} {g : Nat → Int64} {H : Heap} {locs : List Loc} {Q : State → Prop} {ls : Array Slot}
    (F : pt_F p m c code 9 s #[Value.ref b] RL D cA) (hbl : b < s.heap.size) (hX : va_X b 6 xs s s.heap) (hZ : px_Z (fun q : Nat => s.heap.size ≤ q) s s.heap) (hN : rt_Zs (rd 13) (rd 14) (fun q : Nat => s.heap.size ≤ q) s s.heap) (hNc : pw_N s) (K : pz_K ad rd ao s.heap.size) (hS : va_S (fun q : Nat => s.heap.size ≤ q) s.heap H locs)
    (hP : va_P D pt_cl (pt_W cA ad pt_M0) H) (hPr : va_P D pt_cl (rt_W cA rd pz_M0) H) (hO : va_P D pt_cl (pw_O cA ao g) H) (hl : lv_has ls 9 [(4, .int 0), (3, .ref ao), (2, .ref (rd 0)), (1, .ref (ad 0)), (0, .ref b)])
    (c0 v0 : Int32) (hc : wpVX7_start (fun X : String => (X = "java/lang/IllegalStateException" ∧ c0 = 1)) pt_M0 (fun (r : Int32) (_ : pt_M) => c0 = 0 ∧ r = v0)) (hr : wpX12_start_ pz_M0 (fun (r : Int32) (M : pt_M) => M 0 0 = c0 ∧ (c0 = 0 → r = v0)))
    (kk : ∀ (H1 : Heap) (locs1 : List Loc) (ls1 : Array Slot), va_S (fun q : Nat => s.heap.size ≤ q) s.heap H1 locs1 → lv_has ls1 9 [(4, .int 0), (0, .ref b)] → W p l e room_1 s m #[Value.ref b] below meth c H1 locs1 600002 7302232 Q (F0 m 1781 ls1 [])) : W p l e room_1 s m #[Value.ref b] below meth c H locs 401 4242 Q (F0 m 724 ls []) := by
  refine lv_aload_n F.1.1 F.1.2.1 dL_law_724 rfl (lv_at hl 3 rfl) ?_
  refine lv_aload_n F.1.1 F.1.2.1 dL_law_725 rfl (lv_at hl 1 rfl) ?_
  refine va_calli (pw_runS (n := 2) (As := [.ref (ad 0), .ref ao]) (rest := []) F (mtL_start l hst D cA ad K.1 ao g _ pt_M0 c0 v0 hc) pw_blind (fun U hU hW => ⟨⟨by rw [hU], by rw [hU]; exact hP, va_K.moved hW.alike F.2⟩, by rw [hU]; exact px_Z.moved hW.alike ((hZ.kept hS.2.1).narrow (pz_fa K hS.1).1), by rw [hU]; exact hO, K.2.2.2.1, pw_N.moved hW.alike hNc⟩) kw_698 kw_696 kw_51 kw_697 ⟨by decide, by decide, by decide +kernel⟩ ⟨rfl, rfl, (Nat.le_of_ble_eq_true rfl), (Nat.le_of_ble_eq_true rfl)⟩ rfl hl.1 rfl (Nat.le_of_ble_eq_true rfl) dL_law_726 ⟨(Nat.le_of_ble_eq_true rfl), (Nat.le_of_ble_eq_true rfl)⟩) hS (fun q _ h => (pz_fa K hS.1).1 q h) (pz_fa K hS.1).1 (fun r5 g1 t H1 locs1 ht _ hq5 hB hz ho hS1 => ?_)
  obtain ⟨e5, e5v⟩ := hq5
  replace e5 := e5.symm
  subst e5
  rw [ht] at hB
  replace hPr := pz_r1 K hPr ho
  clear hO hP
  have hO := hB
  clear hB hS
  have hS := hS1
  clear hS1 ho hz
  refine W.widen (k := 402) (n := 4248) (Nat.le_of_ble_eq_true rfl) (Nat.le_of_ble_eq_true rfl) ?_
  refine lv_istore (lv' := [(5, .int c0), (4, .int 0), (3, .ref ao), (2, .ref (rd 0)), (1, .ref (ad 0)), (0, .ref b)]) F.1.1 F.1.2.1 dL_law_729 hl (by decide) rfl (fun ls hl => ?_)
  refine lv_aload_n F.1.1 F.1.2.1 dL_law_731 rfl (lv_at hl 3 rfl) ?_
  refine va_calli (rt_runVm (n := 0) (As := []) (rest := []) F hPr hN hS (pz_fa K hS.1).2.1 (rt_c12 _ rt_k0) (rt_l12 rt_k0) rfl (mtX12_start_ l D cA rd K.2.1 _ pz_M0 _ hr) kw_1300 kw_1297 kw_60 kw_1298 kw_1299 ⟨by decide, by decide, by decide +kernel⟩ ⟨rfl, rfl, (Nat.le_of_ble_eq_true rfl), (Nat.le_of_ble_eq_true rfl)⟩ rfl hl.1 rfl (Nat.le_of_ble_eq_true rfl) dL_law_732 ⟨(Nat.le_of_ble_eq_true rfl), (Nat.le_of_ble_eq_true rfl)⟩) hS (fun q _ h => (pz_fa K hS.1).2.1 q h) (pz_fa K hS.1).2.1 (fun r6 M1 t H1 locs1 ht _ hq hB hz ho hS1 => ?_)
  replace hO := pz_o1 K hO ho
  have hT : va_P D pt_cl [(rd 0, .inr (12, [.int (M1 0 0), .ref (rd 1), .ref (rd 6), .ref (rd 12), .int (M1 0 4)]))] H1 := by rw [← ht]; exact va_P.sub hB [0] rfl
  clear hS
  have hS := hS1
  clear hS1 ho hz hPr
  refine W.widen (k := 404) (n := 4281) (Nat.le_of_ble_eq_true rfl) (Nat.le_of_ble_eq_true rfl) ?_
  refine lv_istore (lv' := [(6, .int r6), (5, .int c0), (4, .int 0), (3, .ref ao), (2, .ref (rd 0)), (1, .ref (ad 0)), (0, .ref b)]) F.1.1 F.1.2.1 dL_law_735 hl (by decide) rfl (fun ls hl => ?_)
  refine lv_aload_n F.1.1 F.1.2.1 dL_law_737 rfl (lv_at hl 4 rfl) ?_
  refine va_calli (sx_runV (n := 0) (As := []) (rest := []) F hT 0 rfl rfl (mtTH0 l D cA (rd 0) (M1 0 0) (.ref (rd 1)) (.ref (rd 6)) (.ref (rd 12)) (.int (M1 0 4))) pz_thblind (fun U hU hW => ⟨by rw [hU]; exact hT, va_K.moved hW.alike F.2⟩) kw_1159 kw_1156 kw_60 kw_1157 kw_1158 ⟨by decide, by decide, by decide +kernel⟩ ⟨rfl, rfl, (Nat.le_of_ble_eq_true rfl), (Nat.le_of_ble_eq_true rfl)⟩ rfl hl.1 rfl (Nat.le_of_ble_eq_true rfl) dL_law_738 ⟨(Nat.le_of_ble_eq_true rfl), (Nat.le_of_ble_eq_true rfl)⟩) hS (fun _ _ h => h.elim) (fun _ h => h.elim) (fun r7 _ t H1 locs1 ht _ e7 _ hz ho hS1 => ?_)
  replace e7 := (e7.trans hq.1).symm
  subst e7
  replace hO := pz_keep hO (fun _ _ _ _ h => h) ho
  clear hS
  have hS := hS1
  clear hS1 ho hz
  refine lv_iload F.1.1 F.1.2.1 dL_law_741 (lv_at hl 1 rfl) ?_
  refine lv_icmp_eq (tgt := 748) F.1.1 F.1.2.1 dL_law_743 (by decide) (fun _ => ?_) (fun hc => absurd rfl hc)
  refine lv_iload F.1.1 F.1.2.1 dL_law_748 (lv_at hl 1 rfl) ?_
  refine lv_if_ne (tgt := 765) F.1.1 F.1.2.1 dL_law_750 (by decide) (fun hc => ?_) (fun hc => ?_)
  · refine lv_goto (tgt := 1781) F.1.1 F.1.2.1 dL_law_765 (by decide) ?_
    refine W.widen (k := 600002) (n := 7302232) (Nat.le_of_ble_eq_true rfl) (Nat.le_of_ble_eq_true rfl) ?_
    exact kk _ _ _ hS (lv_sub hl [2, 6] rfl)
  · have hc0 : c0 = 0 := hc
    refine lv_aload_n F.1.1 F.1.2.1 dL_law_753 rfl (lv_at hl 3 rfl) ?_
    refine lv_iconst (v := 0) F.1.1 F.1.2.1 dL_law_754 (by decide) ?_
    refine va_lald F.1.1 F.1.2.1 F.2 hO 0 6 rfl rfl (show vp_in 0 1 from by unfold vp_in; decide) dL_law_755 ?_
    refine W.eq (g2 := F0 m 756 ls [.long (g1 0)]) rfl ?_
    refine lv_iload F.1.1 F.1.2.1 dL_law_756 (lv_at hl 0 rfl) ?_
    refine lv_i2l (v := r6.toInt64) F.1.1 F.1.2.1 dL_law_758 rfl ?_
    refine W.lcmp F.1.1 F.1.2.1 dL_law_759 ?_
    refine lv_topi (fun r_759 er_759 => ?_)
    refine lv_if_eq (tgt := 765) F.1.1 F.1.2.1 dL_law_760 (by decide) (fun _ => ?_) (fun hc => absurd (by rw [er_759, e5v hc0, hq.2 hc0]; exact pz_cmp _) hc)
    refine lv_goto (tgt := 1781) F.1.1 F.1.2.1 dL_law_765 (by decide) ?_
    refine W.widen (k := 600002) (n := 7302232) (Nat.le_of_ble_eq_true rfl) (Nat.le_of_ble_eq_true rfl) ?_
    exact kk _ _ _ hS (lv_sub hl [2, 6] rfl)
-- ===== case 7: stop
set_option maxHeartbeats 8000000 in
set_option maxRecDepth 100000 in
theorem lc_7 {p : Program} {e : Env} {s : State} {m : MethodId} {below : List Frame} {meth : Method} {c : Code} (l : Launch) (hst : l.stackTraces = false) {b : Nat} {xs : Nat → Int32} {D : va_G} {cA : Nat → ClassId} {ad rd : Nat → Nat} {ao : Nat} {g : Nat → Int64} {H : Heap} {locs : List Loc} {Q : State → Prop} {ls : Array Slot}
    (F : pt_F p m c code 9 s #[Value.ref b] RL D cA) (hbl : b < s.heap.size) (hX : va_X b 6 xs s s.heap) (hZ : px_Z (fun q : Nat => s.heap.size ≤ q) s s.heap) (hN : rt_Zs (rd 13) (rd 14) (fun q : Nat => s.heap.size ≤ q) s s.heap) (hNc : pw_N s) (K : pz_K ad rd ao s.heap.size) (hS : va_S (fun q : Nat => s.heap.size ≤ q) s.heap H locs)
    (hP : va_P D pt_cl (pt_W cA ad pt_M0) H) (hPr : va_P D pt_cl (rt_W cA rd pz_M0) H) (hO : va_P D pt_cl (pw_O cA ao g) H) (hl : lv_has ls 9 [(4, .int 0), (3, .ref ao), (2, .ref (rd 0)), (1, .ref (ad 0)), (0, .ref b)])
    (c0 v0 : Int32) (hc : wpVX7_stop (fun X : String => (X = "java/lang/IllegalStateException" ∧ c0 = 1)) pt_M0 (fun (r : Int32) (_ : pt_M) => c0 = 0 ∧ r = v0)) (hr : wpX12_stop pz_M0 (fun (r : Int32) (M : pt_M) => M 0 0 = c0 ∧ (c0 = 0 → r = v0)))
    (kk : ∀ (H1 : Heap) (locs1 : List Loc) (ls1 : Array Slot), va_S (fun q : Nat => s.heap.size ≤ q) s.heap H1 locs1 → lv_has ls1 9 [(4, .int 0), (0, .ref b)] → W p l e room_1 s m #[Value.ref b] below meth c H1 locs1 600002 7302232 Q (F0 m 1781 ls1 [])) : W p l e room_1 s m #[Value.ref b] below meth c H locs 401 4242 Q (F0 m 768 ls []) := by
  refine lv_aload_n F.1.1 F.1.2.1 dL_law_768 rfl (lv_at hl 3 rfl) ?_
  refine lv_aload_n F.1.1 F.1.2.1 dL_law_769 rfl (lv_at hl 1 rfl) ?_
  refine va_calli (pw_runS (n := 2) (As := [.ref (ad 0), .ref ao]) (rest := []) F (mtL_stop l hst D cA ad K.1 ao g _ pt_M0 c0 v0 hc) pw_blind (fun U hU hW => ⟨⟨by rw [hU], by rw [hU]; exact hP, va_K.moved hW.alike F.2⟩, by rw [hU]; exact px_Z.moved hW.alike ((hZ.kept hS.2.1).narrow (pz_fa K hS.1).1), by rw [hU]; exact hO, K.2.2.2.1, pw_N.moved hW.alike hNc⟩) kw_823 kw_821 kw_51 kw_822 ⟨by decide, by decide, by decide +kernel⟩ ⟨rfl, rfl, (Nat.le_of_ble_eq_true rfl), (Nat.le_of_ble_eq_true rfl)⟩ rfl hl.1 rfl (Nat.le_of_ble_eq_true rfl) dL_law_770 ⟨(Nat.le_of_ble_eq_true rfl), (Nat.le_of_ble_eq_true rfl)⟩) hS (fun q _ h => (pz_fa K hS.1).1 q h) (pz_fa K hS.1).1 (fun r5 g1 t H1 locs1 ht _ hq5 hB hz ho hS1 => ?_)
  obtain ⟨e5, e5v⟩ := hq5
  replace e5 := e5.symm
  subst e5
  rw [ht] at hB
  replace hPr := pz_r1 K hPr ho
  clear hO hP
  have hO := hB
  clear hB hS
  have hS := hS1
  clear hS1 ho hz
  refine W.widen (k := 402) (n := 4248) (Nat.le_of_ble_eq_true rfl) (Nat.le_of_ble_eq_true rfl) ?_
  refine lv_istore (lv' := [(5, .int c0), (4, .int 0), (3, .ref ao), (2, .ref (rd 0)), (1, .ref (ad 0)), (0, .ref b)]) F.1.1 F.1.2.1 dL_law_773 hl (by decide) rfl (fun ls hl => ?_)
  refine lv_aload_n F.1.1 F.1.2.1 dL_law_775 rfl (lv_at hl 3 rfl) ?_
  refine va_calli (rt_runVm (n := 0) (As := []) (rest := []) F hPr hN hS (pz_fa K hS.1).2.1 (rt_c12 _ rt_k0) (rt_l12 rt_k0) rfl (mtX12_stop l D cA rd K.2.1 _ pz_M0 _ hr) kw_1444 kw_1441 kw_60 kw_1442 kw_1443 ⟨by decide, by decide, by decide +kernel⟩ ⟨rfl, rfl, (Nat.le_of_ble_eq_true rfl), (Nat.le_of_ble_eq_true rfl)⟩ rfl hl.1 rfl (Nat.le_of_ble_eq_true rfl) dL_law_776 ⟨(Nat.le_of_ble_eq_true rfl), (Nat.le_of_ble_eq_true rfl)⟩) hS (fun q _ h => (pz_fa K hS.1).2.1 q h) (pz_fa K hS.1).2.1 (fun r6 M1 t H1 locs1 ht _ hq hB hz ho hS1 => ?_)
  replace hO := pz_o1 K hO ho
  have hT : va_P D pt_cl [(rd 0, .inr (12, [.int (M1 0 0), .ref (rd 1), .ref (rd 6), .ref (rd 12), .int (M1 0 4)]))] H1 := by rw [← ht]; exact va_P.sub hB [0] rfl
  clear hS
  have hS := hS1
  clear hS1 ho hz hPr
  refine lv_istore (lv' := [(6, .int r6), (5, .int c0), (4, .int 0), (3, .ref ao), (2, .ref (rd 0)), (1, .ref (ad 0)), (0, .ref b)]) F.1.1 F.1.2.1 dL_law_779 hl (by decide) rfl (fun ls hl => ?_)
  refine lv_aload_n F.1.1 F.1.2.1 dL_law_781 rfl (lv_at hl 4 rfl) ?_
  refine va_calli (sx_runV (n := 0) (As := []) (rest := []) F hT 0 rfl rfl (mtTH0 l D cA (rd 0) (M1 0 0) (.ref (rd 1)) (.ref (rd 6)) (.ref (rd 12)) (.int (M1 0 4))) pz_thblind (fun U hU hW => ⟨by rw [hU]; exact hT, va_K.moved hW.alike F.2⟩) kw_1159 kw_1156 kw_60 kw_1157 kw_1158 ⟨by decide, by decide, by decide +kernel⟩ ⟨rfl, rfl, (Nat.le_of_ble_eq_true rfl), (Nat.le_of_ble_eq_true rfl)⟩ rfl hl.1 rfl (Nat.le_of_ble_eq_true rfl) dL_law_782 ⟨(Nat.le_of_ble_eq_true rfl), (Nat.le_of_ble_eq_true rfl)⟩) hS (fun _ _ h => h.elim) (fun _ h => h.elim) (fun r7 _ t H1 locs1 ht _ e7 _ hz ho hS1 => ?_)
  replace e7 := (e7.trans hq.1).symm
  subst e7
  replace hO := pz_keep hO (fun _ _ _ _ h => h) ho
  clear hS
  have hS := hS1
  clear hS1 ho hz
  refine lv_iload F.1.1 F.1.2.1 dL_law_785 (lv_at hl 1 rfl) ?_
  refine lv_icmp_eq (tgt := 792) F.1.1 F.1.2.1 dL_law_787 (by decide) (fun _ => ?_) (fun hc => absurd rfl hc)
  refine lv_iload F.1.1 F.1.2.1 dL_law_792 (lv_at hl 1 rfl) ?_
  refine lv_if_ne (tgt := 809) F.1.1 F.1.2.1 dL_law_794 (by decide) (fun hc => ?_) (fun hc => ?_)
  · refine lv_goto (tgt := 1781) F.1.1 F.1.2.1 dL_law_809 (by decide) ?_
    refine W.widen (k := 600002) (n := 7302232) (Nat.le_of_ble_eq_true rfl) (Nat.le_of_ble_eq_true rfl) ?_
    exact kk _ _ _ hS (lv_sub hl [2, 6] rfl)
  · have hc0 : c0 = 0 := hc
    refine lv_aload_n F.1.1 F.1.2.1 dL_law_797 rfl (lv_at hl 3 rfl) ?_
    refine lv_iconst (v := 0) F.1.1 F.1.2.1 dL_law_798 (by decide) ?_
    refine va_lald F.1.1 F.1.2.1 F.2 hO 0 6 rfl rfl (show vp_in 0 1 from by unfold vp_in; decide) dL_law_799 ?_
    refine W.eq (g2 := F0 m 800 ls [.long (g1 0)]) rfl ?_
    refine lv_iload F.1.1 F.1.2.1 dL_law_800 (lv_at hl 0 rfl) ?_
    refine lv_i2l (v := r6.toInt64) F.1.1 F.1.2.1 dL_law_802 rfl ?_
    refine W.lcmp F.1.1 F.1.2.1 dL_law_803 ?_
    refine lv_topi (fun r_803 er_803 => ?_)
    refine lv_if_eq (tgt := 809) F.1.1 F.1.2.1 dL_law_804 (by decide) (fun _ => ?_) (fun hc => absurd (by rw [er_803, e5v hc0, hq.2 hc0]; exact pz_cmp _) hc)
    refine lv_goto (tgt := 1781) F.1.1 F.1.2.1 dL_law_809 (by decide) ?_
    refine W.widen (k := 600002) (n := 7302232) (Nat.le_of_ble_eq_true rfl) (Nat.le_of_ble_eq_true rfl) ?_
    exact kk _ _ _ hS (lv_sub hl [2, 6] rfl)
-- ===== case 8: send
set_option maxHeartbeats 8000000 in
set_option maxRecDepth 100000 in
theorem lc_8 {p : Program} {e : Env} {s : State} {m : MethodId} {below : List Frame} {meth : Method} {c : Code} (l : Launch) (hst : l.stackTraces = false) {b : Nat} {xs : Nat → Int32} {D : va_G} {cA : Nat → ClassId} {ad rd : Nat → Nat} {ao : Nat} {g : Nat → Int64} {H : Heap} {locs : List Loc} {Q : State → Prop} {ls : Array Slot}
    (F : pt_F p m c code 9 s #[Value.ref b] RL D cA) (hbl : b < s.heap.size) (hX : va_X b 6 xs s s.heap) (hZ : px_Z (fun q : Nat => s.heap.size ≤ q) s s.heap) (hN : rt_Zs (rd 13) (rd 14) (fun q : Nat => s.heap.size ≤ q) s s.heap) (hNc : pw_N s) (K : pz_K ad rd ao s.heap.size) (hS : va_S (fun q : Nat => s.heap.size ≤ q) s.heap H locs)
    (hP : va_P D pt_cl (pt_W cA ad pt_M0) H) (hPr : va_P D pt_cl (rt_W cA rd pz_M0) H) (hO : va_P D pt_cl (pw_O cA ao g) H) (hl : lv_has ls 9 [(4, .int 0), (3, .ref ao), (2, .ref (rd 0)), (1, .ref (ad 0)), (0, .ref b)])
    (c0 v0 : Int32) (hc : wpVX7_send (fun X : String => (X = "java/lang/IllegalStateException" ∧ c0 = 1) ∨ (X = "java/lang/IllegalArgumentException" ∧ c0 = 2)) (xs 1) pt_M0 (fun (r : Int32) (_ : pt_M) => c0 = 0 ∧ r = v0)) (hr : wpX12_send (xs 1) pz_M0 (fun (r : Int32) (M : pt_M) => M 0 0 = c0 ∧ (c0 = 0 → r = v0)))
    (kk : ∀ (H1 : Heap) (locs1 : List Loc) (ls1 : Array Slot), va_S (fun q : Nat => s.heap.size ≤ q) s.heap H1 locs1 → lv_has ls1 9 [(4, .int 0), (0, .ref b)] → W p l e room_1 s m #[Value.ref b] below meth c H1 locs1 600002 7302232 Q (F0 m 1781 ls1 [])) : W p l e room_1 s m #[Value.ref b] below meth c H locs 401 4242 Q (F0 m 812 ls []) := by
  refine lv_aload_n F.1.1 F.1.2.1 dL_law_812 rfl (lv_at hl 3 rfl) ?_
  refine lv_aload_n F.1.1 F.1.2.1 dL_law_813 rfl (lv_at hl 4 rfl) ?_
  refine lv_iload F.1.1 F.1.2.1 dL_law_814 (lv_at hl 0 rfl) ?_
  refine lv_iconst (v := 1) F.1.1 F.1.2.1 dL_law_816 (by decide) ?_
  refine lv_iadd F.1.1 F.1.2.1 dL_law_817 ?_
  refine va_sld F.1.1 F.1.2.1 hX hbl (Nat.not_le.mpr hbl) hS (show vp_in (0 + 1) 6 from by unfold vp_in; decide) dL_law_818 ?_
  refine W.eq (g2 := F0 m 819 ls [.int (xs 1), .ref (ad 0)]) rfl ?_
  refine lv_aload_n F.1.1 F.1.2.1 dL_law_819 rfl (lv_at hl 1 rfl) ?_
  refine va_calli (pw_runS (n := 3) (As := [.ref (ad 0), .int (xs 1), .ref ao]) (rest := []) F (mtL_send l hst D cA ad K.1 ao g _ (xs 1) pt_M0 c0 v0 hc) pw_blind (fun U hU hW => ⟨⟨by rw [hU], by rw [hU]; exact hP, va_K.moved hW.alike F.2⟩, by rw [hU]; exact px_Z.moved hW.alike ((hZ.kept hS.2.1).narrow (pz_fa K hS.1).1), by rw [hU]; exact hO, K.2.2.2.1, pw_N.moved hW.alike hNc⟩) kw_835 kw_833 kw_51 kw_834 ⟨by decide, by decide, by decide +kernel⟩ ⟨rfl, rfl, (Nat.le_of_ble_eq_true rfl), (Nat.le_of_ble_eq_true rfl)⟩ rfl hl.1 rfl (Nat.le_of_ble_eq_true rfl) dL_law_820 ⟨(Nat.le_of_ble_eq_true rfl), (Nat.le_of_ble_eq_true rfl)⟩) hS (fun q _ h => (pz_fa K hS.1).1 q h) (pz_fa K hS.1).1 (fun r5 g1 t H1 locs1 ht _ hq5 hB hz ho hS1 => ?_)
  obtain ⟨e5, e5v⟩ := hq5
  replace e5 := e5.symm
  subst e5
  rw [ht] at hB
  replace hPr := pz_r1 K hPr ho
  clear hO hP
  have hO := hB
  clear hB hS
  have hS := hS1
  clear hS1 ho hz
  refine W.widen (k := 403) (n := 4254) (Nat.le_of_ble_eq_true rfl) (Nat.le_of_ble_eq_true rfl) ?_
  refine lv_istore (lv' := [(5, .int c0), (4, .int 0), (3, .ref ao), (2, .ref (rd 0)), (1, .ref (ad 0)), (0, .ref b)]) F.1.1 F.1.2.1 dL_law_823 hl (by decide) rfl (fun ls hl => ?_)
  refine lv_aload_n F.1.1 F.1.2.1 dL_law_825 rfl (lv_at hl 3 rfl) ?_
  refine lv_aload_n F.1.1 F.1.2.1 dL_law_826 rfl (lv_at hl 5 rfl) ?_
  refine lv_iload F.1.1 F.1.2.1 dL_law_827 (lv_at hl 1 rfl) ?_
  refine lv_iconst (v := 1) F.1.1 F.1.2.1 dL_law_829 (by decide) ?_
  refine lv_iadd F.1.1 F.1.2.1 dL_law_830 ?_
  refine va_sld F.1.1 F.1.2.1 hX hbl (Nat.not_le.mpr hbl) hS (show vp_in (0 + 1) 6 from by unfold vp_in; decide) dL_law_831 ?_
  refine W.eq (g2 := F0 m 832 ls [.int (xs 1), .ref (rd 0)]) rfl ?_
  refine va_calli (rt_runVm (n := 1) (As := [.int (xs 1)]) (rest := []) F hPr hN hS (pz_fa K hS.1).2.1 (rt_c12 _ rt_k0) (rt_l12 rt_k0) rfl (mtX12_send l D cA rd K.2.1 _ (xs 1) pz_M0 _ hr) kw_1449 kw_1446 kw_60 kw_1447 kw_1448 ⟨by decide, by decide, by decide +kernel⟩ ⟨rfl, rfl, (Nat.le_of_ble_eq_true rfl), (Nat.le_of_ble_eq_true rfl)⟩ rfl hl.1 rfl (Nat.le_of_ble_eq_true rfl) dL_law_832 ⟨(Nat.le_of_ble_eq_true rfl), (Nat.le_of_ble_eq_true rfl)⟩) hS (fun q _ h => (pz_fa K hS.1).2.1 q h) (pz_fa K hS.1).2.1 (fun r6 M1 t H1 locs1 ht _ hq hB hz ho hS1 => ?_)
  replace hO := pz_o1 K hO ho
  have hT : va_P D pt_cl [(rd 0, .inr (12, [.int (M1 0 0), .ref (rd 1), .ref (rd 6), .ref (rd 12), .int (M1 0 4)]))] H1 := by rw [← ht]; exact va_P.sub hB [0] rfl
  clear hS
  have hS := hS1
  clear hS1 ho hz hPr
  refine lv_istore (lv' := [(6, .int r6), (5, .int c0), (4, .int 0), (3, .ref ao), (2, .ref (rd 0)), (1, .ref (ad 0)), (0, .ref b)]) F.1.1 F.1.2.1 dL_law_835 hl (by decide) rfl (fun ls hl => ?_)
  refine lv_aload_n F.1.1 F.1.2.1 dL_law_837 rfl (lv_at hl 4 rfl) ?_
  refine va_calli (sx_runV (n := 0) (As := []) (rest := []) F hT 0 rfl rfl (mtTH0 l D cA (rd 0) (M1 0 0) (.ref (rd 1)) (.ref (rd 6)) (.ref (rd 12)) (.int (M1 0 4))) pz_thblind (fun U hU hW => ⟨by rw [hU]; exact hT, va_K.moved hW.alike F.2⟩) kw_1159 kw_1156 kw_60 kw_1157 kw_1158 ⟨by decide, by decide, by decide +kernel⟩ ⟨rfl, rfl, (Nat.le_of_ble_eq_true rfl), (Nat.le_of_ble_eq_true rfl)⟩ rfl hl.1 rfl (Nat.le_of_ble_eq_true rfl) dL_law_838 ⟨(Nat.le_of_ble_eq_true rfl), (Nat.le_of_ble_eq_true rfl)⟩) hS (fun _ _ h => h.elim) (fun _ h => h.elim) (fun r7 _ t H1 locs1 ht _ e7 _ hz ho hS1 => ?_)
  replace e7 := (e7.trans hq.1).symm
  subst e7
  replace hO := pz_keep hO (fun _ _ _ _ h => h) ho
  clear hS
  have hS := hS1
  clear hS1 ho hz
  refine lv_iload F.1.1 F.1.2.1 dL_law_841 (lv_at hl 1 rfl) ?_
  refine lv_icmp_eq (tgt := 848) F.1.1 F.1.2.1 dL_law_843 (by decide) (fun _ => ?_) (fun hc => absurd rfl hc)
  refine lv_iload F.1.1 F.1.2.1 dL_law_848 (lv_at hl 1 rfl) ?_
  refine lv_if_ne (tgt := 865) F.1.1 F.1.2.1 dL_law_850 (by decide) (fun hc => ?_) (fun hc => ?_)
  · refine lv_goto (tgt := 1781) F.1.1 F.1.2.1 dL_law_865 (by decide) ?_
    refine W.widen (k := 600002) (n := 7302232) (Nat.le_of_ble_eq_true rfl) (Nat.le_of_ble_eq_true rfl) ?_
    exact kk _ _ _ hS (lv_sub hl [2, 6] rfl)
  · have hc0 : c0 = 0 := hc
    refine lv_aload_n F.1.1 F.1.2.1 dL_law_853 rfl (lv_at hl 3 rfl) ?_
    refine lv_iconst (v := 0) F.1.1 F.1.2.1 dL_law_854 (by decide) ?_
    refine va_lald F.1.1 F.1.2.1 F.2 hO 0 6 rfl rfl (show vp_in 0 1 from by unfold vp_in; decide) dL_law_855 ?_
    refine W.eq (g2 := F0 m 856 ls [.long (g1 0)]) rfl ?_
    refine lv_iload F.1.1 F.1.2.1 dL_law_856 (lv_at hl 0 rfl) ?_
    refine lv_i2l (v := r6.toInt64) F.1.1 F.1.2.1 dL_law_858 rfl ?_
    refine W.lcmp F.1.1 F.1.2.1 dL_law_859 ?_
    refine lv_topi (fun r_859 er_859 => ?_)
    refine lv_if_eq (tgt := 865) F.1.1 F.1.2.1 dL_law_860 (by decide) (fun _ => ?_) (fun hc => absurd (by rw [er_859, e5v hc0, hq.2 hc0]; exact pz_cmp _) hc)
    refine lv_goto (tgt := 1781) F.1.1 F.1.2.1 dL_law_865 (by decide) ?_
    refine W.widen (k := 600002) (n := 7302232) (Nat.le_of_ble_eq_true rfl) (Nat.le_of_ble_eq_true rfl) ?_
    exact kk _ _ _ hS (lv_sub hl [2, 6] rfl)
