-- each case of the law, over what its call answers
set_option maxRecDepth 100000 in
theorem lp_0 {p : Program} {e : Env} {s : State} {m : MethodId} {below : List Frame} {meth : Method} {c : Code} (l : Launch) (hst : l.stackTraces = false) {b : Nat} {xs : Nat → Int32} {D : va_G} {cA : Nat → ClassId} {ad rd : Nat → Nat} {ao : Nat} {g : Nat → Int64} {H : Heap} {locs : List Loc} {Q : State → Prop} {ls : Array Slot}
    (F : pt_F p m c code 9 s #[Value.ref b] RL D cA) (hbl : b < s.heap.size) (hX : va_X b 6 xs s s.heap) (hZ : px_Z (fun q : Nat => s.heap.size ≤ q) s s.heap) (hN : rt_Zs (rd 13) (rd 14) (fun q : Nat => s.heap.size ≤ q) s s.heap) (hNc : pw_N s) (K : pz_K ad rd ao s.heap.size) (hS : va_S (fun q : Nat => s.heap.size ≤ q) s.heap H locs)
    (hP : va_P D pt_cl (pt_W cA ad pt_M0) H) (hPr : va_P D pt_cl (rt_W cA rd pz_M0) H) (hO : va_P D pt_cl (pw_O cA ao g) H) (hl : lv_has ls 9 [(4, .int 0), (3, .ref ao), (2, .ref (rd 0)), (1, .ref (ad 0)), (0, .ref b)])
    (kk : ∀ (H1 : Heap) (locs1 : List Loc) (ls1 : Array Slot), va_S (fun q : Nat => s.heap.size ≤ q) s.heap H1 locs1 → lv_has ls1 9 [(4, .int 0), (0, .ref b)] → W p l e room_1 s m #[Value.ref b] below meth c H1 locs1 600002 7302232 Q (F0 m 1781 ls1 [])) : W p l e room_1 s m #[Value.ref b] below meth c H locs 401 4242 Q (F0 m 192 ls []) := by
  obtain ⟨c0, v0, hc, hr⟩ := pu_0 xs
  exact lc_0 l hst F hbl hX hZ hN hNc K hS hP hPr hO hl c0 v0 hc hr kk
set_option maxRecDepth 100000 in
theorem lp_1 {p : Program} {e : Env} {s : State} {m : MethodId} {below : List Frame} {meth : Method} {c : Code} (l : Launch) (hst : l.stackTraces = false) {b : Nat} {xs : Nat → Int32} {D : va_G} {cA : Nat → ClassId} {ad rd : Nat → Nat} {ao : Nat} {g : Nat → Int64} {H : Heap} {locs : List Loc} {Q : State → Prop} {ls : Array Slot}
    (F : pt_F p m c code 9 s #[Value.ref b] RL D cA) (hbl : b < s.heap.size) (hX : va_X b 6 xs s s.heap) (hZ : px_Z (fun q : Nat => s.heap.size ≤ q) s s.heap) (hN : rt_Zs (rd 13) (rd 14) (fun q : Nat => s.heap.size ≤ q) s s.heap) (hNc : pw_N s) (K : pz_K ad rd ao s.heap.size) (hS : va_S (fun q : Nat => s.heap.size ≤ q) s.heap H locs)
    (hP : va_P D pt_cl (pt_W cA ad pt_M0) H) (hPr : va_P D pt_cl (rt_W cA rd pz_M0) H) (hO : va_P D pt_cl (pw_O cA ao g) H) (hl : lv_has ls 9 [(4, .int 0), (3, .ref ao), (2, .ref (rd 0)), (1, .ref (ad 0)), (0, .ref b)])
    (kk : ∀ (H1 : Heap) (locs1 : List Loc) (ls1 : Array Slot), va_S (fun q : Nat => s.heap.size ≤ q) s.heap H1 locs1 → lv_has ls1 9 [(4, .int 0), (0, .ref b)] → W p l e room_1 s m #[Value.ref b] below meth c H1 locs1 600002 7302232 Q (F0 m 1781 ls1 [])) : W p l e room_1 s m #[Value.ref b] below meth c H locs 401 4242 Q (F0 m 260 ls []) := by
  obtain ⟨c0, v0, hc, hr⟩ := pu_1 xs
  exact lc_1 l hst F hbl hX hZ hN hNc K hS hP hPr hO hl c0 v0 hc hr kk
set_option maxRecDepth 100000 in
theorem lp_2 {p : Program} {e : Env} {s : State} {m : MethodId} {below : List Frame} {meth : Method} {c : Code} (l : Launch) (hst : l.stackTraces = false) {b : Nat} {xs : Nat → Int32} {D : va_G} {cA : Nat → ClassId} {ad rd : Nat → Nat} {ao : Nat} {g : Nat → Int64} {H : Heap} {locs : List Loc} {Q : State → Prop} {ls : Array Slot}
    (F : pt_F p m c code 9 s #[Value.ref b] RL D cA) (hbl : b < s.heap.size) (hX : va_X b 6 xs s s.heap) (hZ : px_Z (fun q : Nat => s.heap.size ≤ q) s s.heap) (hN : rt_Zs (rd 13) (rd 14) (fun q : Nat => s.heap.size ≤ q) s s.heap) (hNc : pw_N s) (K : pz_K ad rd ao s.heap.size) (hS : va_S (fun q : Nat => s.heap.size ≤ q) s.heap H locs)
    (hP : va_P D pt_cl (pt_W cA ad pt_M0) H) (hPr : va_P D pt_cl (rt_W cA rd pz_M0) H) (hO : va_P D pt_cl (pw_O cA ao g) H) (hl : lv_has ls 9 [(4, .int 0), (3, .ref ao), (2, .ref (rd 0)), (1, .ref (ad 0)), (0, .ref b)])
    (kk : ∀ (H1 : Heap) (locs1 : List Loc) (ls1 : Array Slot), va_S (fun q : Nat => s.heap.size ≤ q) s.heap H1 locs1 → lv_has ls1 9 [(4, .int 0), (0, .ref b)] → W p l e room_1 s m #[Value.ref b] below meth c H1 locs1 600002 7302232 Q (F0 m 1781 ls1 [])) : W p l e room_1 s m #[Value.ref b] below meth c H locs 401 4242 Q (F0 m 328 ls []) := by
  obtain ⟨c0, v0, hcz, hrz, hcn, hrn⟩ := pu_2 xs
  exact lc_2 l hst F hbl hX hZ hN hNc K hS hP hPr hO hl c0 v0 hcz hrz hcn hrn kk
set_option maxRecDepth 100000 in
theorem lp_3 {p : Program} {e : Env} {s : State} {m : MethodId} {below : List Frame} {meth : Method} {c : Code} (l : Launch) (hst : l.stackTraces = false) {b : Nat} {xs : Nat → Int32} {D : va_G} {cA : Nat → ClassId} {ad rd : Nat → Nat} {ao : Nat} {g : Nat → Int64} {H : Heap} {locs : List Loc} {Q : State → Prop} {ls : Array Slot}
    (F : pt_F p m c code 9 s #[Value.ref b] RL D cA) (hbl : b < s.heap.size) (hX : va_X b 6 xs s s.heap) (hZ : px_Z (fun q : Nat => s.heap.size ≤ q) s s.heap) (hN : rt_Zs (rd 13) (rd 14) (fun q : Nat => s.heap.size ≤ q) s s.heap) (hNc : pw_N s) (K : pz_K ad rd ao s.heap.size) (hS : va_S (fun q : Nat => s.heap.size ≤ q) s.heap H locs)
    (hP : va_P D pt_cl (pt_W cA ad pt_M0) H) (hPr : va_P D pt_cl (rt_W cA rd pz_M0) H) (hO : va_P D pt_cl (pw_O cA ao g) H) (hl : lv_has ls 9 [(4, .int 0), (3, .ref ao), (2, .ref (rd 0)), (1, .ref (ad 0)), (0, .ref b)])
    (kk : ∀ (H1 : Heap) (locs1 : List Loc) (ls1 : Array Slot), va_S (fun q : Nat => s.heap.size ≤ q) s.heap H1 locs1 → lv_has ls1 9 [(4, .int 0), (0, .ref b)] → W p l e room_1 s m #[Value.ref b] below meth c H1 locs1 600002 7302232 Q (F0 m 1781 ls1 [])) : W p l e room_1 s m #[Value.ref b] below meth c H locs 401 4242 Q (F0 m 448 ls []) := by
  obtain ⟨c0, v0, hc, hr⟩ := pu_3 xs
  exact lc_3 l hst F hbl hX hZ hN hNc K hS hP hPr hO hl c0 v0 hc hr kk
set_option maxRecDepth 100000 in
theorem lp_4 {p : Program} {e : Env} {s : State} {m : MethodId} {below : List Frame} {meth : Method} {c : Code} (l : Launch) (hst : l.stackTraces = false) {b : Nat} {xs : Nat → Int32} {D : va_G} {cA : Nat → ClassId} {ad rd : Nat → Nat} {ao : Nat} {g : Nat → Int64} {H : Heap} {locs : List Loc} {Q : State → Prop} {ls : Array Slot}
    (F : pt_F p m c code 9 s #[Value.ref b] RL D cA) (hbl : b < s.heap.size) (hX : va_X b 6 xs s s.heap) (hZ : px_Z (fun q : Nat => s.heap.size ≤ q) s s.heap) (hN : rt_Zs (rd 13) (rd 14) (fun q : Nat => s.heap.size ≤ q) s s.heap) (hNc : pw_N s) (K : pz_K ad rd ao s.heap.size) (hS : va_S (fun q : Nat => s.heap.size ≤ q) s.heap H locs)
    (hP : va_P D pt_cl (pt_W cA ad pt_M0) H) (hPr : va_P D pt_cl (rt_W cA rd pz_M0) H) (hO : va_P D pt_cl (pw_O cA ao g) H) (hl : lv_has ls 9 [(4, .int 0), (3, .ref ao), (2, .ref (rd 0)), (1, .ref (ad 0)), (0, .ref b)])
    (kk : ∀ (H1 : Heap) (locs1 : List Loc) (ls1 : Array Slot), va_S (fun q : Nat => s.heap.size ≤ q) s.heap H1 locs1 → lv_has ls1 9 [(4, .int 0), (0, .ref b)] → W p l e room_1 s m #[Value.ref b] below meth c H1 locs1 600002 7302232 Q (F0 m 1781 ls1 [])) : W p l e room_1 s m #[Value.ref b] below meth c H locs 401 4242 Q (F0 m 540 ls []) := by
  obtain ⟨c0, v0, hc, hr⟩ := pu_4 xs
  exact lc_4 l hst F hbl hX hZ hN hNc K hS hP hPr hO hl c0 v0 hc hr kk
set_option maxRecDepth 100000 in
theorem lp_5 {p : Program} {e : Env} {s : State} {m : MethodId} {below : List Frame} {meth : Method} {c : Code} (l : Launch) (hst : l.stackTraces = false) {b : Nat} {xs : Nat → Int32} {D : va_G} {cA : Nat → ClassId} {ad rd : Nat → Nat} {ao : Nat} {g : Nat → Int64} {H : Heap} {locs : List Loc} {Q : State → Prop} {ls : Array Slot}
    (F : pt_F p m c code 9 s #[Value.ref b] RL D cA) (hbl : b < s.heap.size) (hX : va_X b 6 xs s s.heap) (hZ : px_Z (fun q : Nat => s.heap.size ≤ q) s s.heap) (hN : rt_Zs (rd 13) (rd 14) (fun q : Nat => s.heap.size ≤ q) s s.heap) (hNc : pw_N s) (K : pz_K ad rd ao s.heap.size) (hS : va_S (fun q : Nat => s.heap.size ≤ q) s.heap H locs)
    (hP : va_P D pt_cl (pt_W cA ad pt_M0) H) (hPr : va_P D pt_cl (rt_W cA rd pz_M0) H) (hO : va_P D pt_cl (pw_O cA ao g) H) (hl : lv_has ls 9 [(4, .int 0), (3, .ref ao), (2, .ref (rd 0)), (1, .ref (ad 0)), (0, .ref b)])
    (kk : ∀ (H1 : Heap) (locs1 : List Loc) (ls1 : Array Slot), va_S (fun q : Nat => s.heap.size ≤ q) s.heap H1 locs1 → lv_has ls1 9 [(4, .int 0), (0, .ref b)] → W p l e room_1 s m #[Value.ref b] below meth c H1 locs1 600002 7302232 Q (F0 m 1781 ls1 [])) : W p l e room_1 s m #[Value.ref b] below meth c H locs 401 4242 Q (F0 m 632 ls []) := by
  obtain ⟨c0, v0, hc, hr⟩ := pu_5 xs
  exact lc_5 l hst F hbl hX hZ hN hNc K hS hP hPr hO hl c0 v0 hc hr kk
set_option maxRecDepth 100000 in
theorem lp_6 {p : Program} {e : Env} {s : State} {m : MethodId} {below : List Frame} {meth : Method} {c : Code} (l : Launch) (hst : l.stackTraces = false) {b : Nat} {xs : Nat → Int32} {D : va_G} {cA : Nat → ClassId} {ad rd : Nat → Nat} {ao : Nat} {g : Nat → Int64} {H : Heap} {locs : List Loc} {Q : State → Prop} {ls : Array Slot}
    (F : pt_F p m c code 9 s #[Value.ref b] RL D cA) (hbl : b < s.heap.size) (hX : va_X b 6 xs s s.heap) (hZ : px_Z (fun q : Nat => s.heap.size ≤ q) s s.heap) (hN : rt_Zs (rd 13) (rd 14) (fun q : Nat => s.heap.size ≤ q) s s.heap) (hNc : pw_N s) (K : pz_K ad rd ao s.heap.size) (hS : va_S (fun q : Nat => s.heap.size ≤ q) s.heap H locs)
    (hP : va_P D pt_cl (pt_W cA ad pt_M0) H) (hPr : va_P D pt_cl (rt_W cA rd pz_M0) H) (hO : va_P D pt_cl (pw_O cA ao g) H) (hl : lv_has ls 9 [(4, .int 0), (3, .ref ao), (2, .ref (rd 0)), (1, .ref (ad 0)), (0, .ref b)])
    (kk : ∀ (H1 : Heap) (locs1 : List Loc) (ls1 : Array Slot), va_S (fun q : Nat => s.heap.size ≤ q) s.heap H1 locs1 → lv_has ls1 9 [(4, .int 0), (0, .ref b)] → W p l e room_1 s m #[Value.ref b] below meth c H1 locs1 600002 7302232 Q (F0 m 1781 ls1 [])) : W p l e room_1 s m #[Value.ref b] below meth c H locs 401 4242 Q (F0 m 724 ls []) := by
  obtain ⟨c0, v0, hc, hr⟩ := pu_6 xs
  exact lc_6 l hst F hbl hX hZ hN hNc K hS hP hPr hO hl c0 v0 hc hr kk
set_option maxRecDepth 100000 in
theorem lp_7 {p : Program} {e : Env} {s : State} {m : MethodId} {below : List Frame} {meth : Method} {c : Code} (l : Launch) (hst : l.stackTraces = false) {b : Nat} {xs : Nat → Int32} {D : va_G} {cA : Nat → ClassId} {ad rd : Nat → Nat} {ao : Nat} {g : Nat → Int64} {H : Heap} {locs : List Loc} {Q : State → Prop} {ls : Array Slot}
    (F : pt_F p m c code 9 s #[Value.ref b] RL D cA) (hbl : b < s.heap.size) (hX : va_X b 6 xs s s.heap) (hZ : px_Z (fun q : Nat => s.heap.size ≤ q) s s.heap) (hN : rt_Zs (rd 13) (rd 14) (fun q : Nat => s.heap.size ≤ q) s s.heap) (hNc : pw_N s) (K : pz_K ad rd ao s.heap.size) (hS : va_S (fun q : Nat => s.heap.size ≤ q) s.heap H locs)
    (hP : va_P D pt_cl (pt_W cA ad pt_M0) H) (hPr : va_P D pt_cl (rt_W cA rd pz_M0) H) (hO : va_P D pt_cl (pw_O cA ao g) H) (hl : lv_has ls 9 [(4, .int 0), (3, .ref ao), (2, .ref (rd 0)), (1, .ref (ad 0)), (0, .ref b)])
    (kk : ∀ (H1 : Heap) (locs1 : List Loc) (ls1 : Array Slot), va_S (fun q : Nat => s.heap.size ≤ q) s.heap H1 locs1 → lv_has ls1 9 [(4, .int 0), (0, .ref b)] → W p l e room_1 s m #[Value.ref b] below meth c H1 locs1 600002 7302232 Q (F0 m 1781 ls1 [])) : W p l e room_1 s m #[Value.ref b] below meth c H locs 401 4242 Q (F0 m 768 ls []) := by
  obtain ⟨c0, v0, hc, hr⟩ := pu_7 xs
  exact lc_7 l hst F hbl hX hZ hN hNc K hS hP hPr hO hl c0 v0 hc hr kk
set_option maxRecDepth 100000 in
theorem lp_8 {p : Program} {e : Env} {s : State} {m : MethodId} {below : List Frame} {meth : Method} {c : Code} (l : Launch) (hst : l.stackTraces = false) {b : Nat} {xs : Nat → Int32} {D : va_G} {cA : Nat → ClassId} {ad rd : Nat → Nat} {ao : Nat} {g : Nat → Int64} {H : Heap} {locs : List Loc} {Q : State → Prop} {ls : Array Slot}
    (F : pt_F p m c code 9 s #[Value.ref b] RL D cA) (hbl : b < s.heap.size) (hX : va_X b 6 xs s s.heap) (hZ : px_Z (fun q : Nat => s.heap.size ≤ q) s s.heap) (hN : rt_Zs (rd 13) (rd 14) (fun q : Nat => s.heap.size ≤ q) s s.heap) (hNc : pw_N s) (K : pz_K ad rd ao s.heap.size) (hS : va_S (fun q : Nat => s.heap.size ≤ q) s.heap H locs)
    (hP : va_P D pt_cl (pt_W cA ad pt_M0) H) (hPr : va_P D pt_cl (rt_W cA rd pz_M0) H) (hO : va_P D pt_cl (pw_O cA ao g) H) (hl : lv_has ls 9 [(4, .int 0), (3, .ref ao), (2, .ref (rd 0)), (1, .ref (ad 0)), (0, .ref b)])
    (kk : ∀ (H1 : Heap) (locs1 : List Loc) (ls1 : Array Slot), va_S (fun q : Nat => s.heap.size ≤ q) s.heap H1 locs1 → lv_has ls1 9 [(4, .int 0), (0, .ref b)] → W p l e room_1 s m #[Value.ref b] below meth c H1 locs1 600002 7302232 Q (F0 m 1781 ls1 [])) : W p l e room_1 s m #[Value.ref b] below meth c H locs 401 4242 Q (F0 m 812 ls []) := by
  obtain ⟨c0, v0, hc, hr⟩ := pu_8 xs
  exact lc_8 l hst F hbl hX hZ hN hNc K hS hP hPr hO hl c0 v0 hc hr kk
set_option maxRecDepth 100000 in
theorem lp_9 {p : Program} {e : Env} {s : State} {m : MethodId} {below : List Frame} {meth : Method} {c : Code} (l : Launch) (hst : l.stackTraces = false) {b : Nat} {xs : Nat → Int32} {D : va_G} {cA : Nat → ClassId} {ad rd : Nat → Nat} {ao : Nat} {g : Nat → Int64} {H : Heap} {locs : List Loc} {Q : State → Prop} {ls : Array Slot}
    (F : pt_F p m c code 9 s #[Value.ref b] RL D cA) (hbl : b < s.heap.size) (hX : va_X b 6 xs s s.heap) (hZ : px_Z (fun q : Nat => s.heap.size ≤ q) s s.heap) (hN : rt_Zs (rd 13) (rd 14) (fun q : Nat => s.heap.size ≤ q) s s.heap) (hNc : pw_N s) (K : pz_K ad rd ao s.heap.size) (hS : va_S (fun q : Nat => s.heap.size ≤ q) s.heap H locs)
    (hP : va_P D pt_cl (pt_W cA ad pt_M0) H) (hPr : va_P D pt_cl (rt_W cA rd pz_M0) H) (hO : va_P D pt_cl (pw_O cA ao g) H) (hl : lv_has ls 9 [(4, .int 0), (3, .ref ao), (2, .ref (rd 0)), (1, .ref (ad 0)), (0, .ref b)])
    (kk : ∀ (H1 : Heap) (locs1 : List Loc) (ls1 : Array Slot), va_S (fun q : Nat => s.heap.size ≤ q) s.heap H1 locs1 → lv_has ls1 9 [(4, .int 0), (0, .ref b)] → W p l e room_1 s m #[Value.ref b] below meth c H1 locs1 600002 7302232 Q (F0 m 1781 ls1 [])) : W p l e room_1 s m #[Value.ref b] below meth c H locs 401 4242 Q (F0 m 868 ls []) := by
  obtain ⟨c0, v0, hc, hr⟩ := pu_9 xs
  exact lc_9 l hst F hbl hX hZ hN hNc K hS hP hPr hO hl c0 v0 hc hr kk
set_option maxRecDepth 100000 in
theorem lp_10 {p : Program} {e : Env} {s : State} {m : MethodId} {below : List Frame} {meth : Method} {c : Code} (l : Launch) (hst : l.stackTraces = false) {b : Nat} {xs : Nat → Int32} {D : va_G} {cA : Nat → ClassId} {ad rd : Nat → Nat} {ao : Nat} {g : Nat → Int64} {H : Heap} {locs : List Loc} {Q : State → Prop} {ls : Array Slot}
    (F : pt_F p m c code 9 s #[Value.ref b] RL D cA) (hbl : b < s.heap.size) (hX : va_X b 6 xs s s.heap) (hZ : px_Z (fun q : Nat => s.heap.size ≤ q) s s.heap) (hN : rt_Zs (rd 13) (rd 14) (fun q : Nat => s.heap.size ≤ q) s s.heap) (hNc : pw_N s) (K : pz_K ad rd ao s.heap.size) (hS : va_S (fun q : Nat => s.heap.size ≤ q) s.heap H locs)
    (hP : va_P D pt_cl (pt_W cA ad pt_M0) H) (hPr : va_P D pt_cl (rt_W cA rd pz_M0) H) (hO : va_P D pt_cl (pw_O cA ao g) H) (hl : lv_has ls 9 [(4, .int 0), (3, .ref ao), (2, .ref (rd 0)), (1, .ref (ad 0)), (0, .ref b)])
    (kk : ∀ (H1 : Heap) (locs1 : List Loc) (ls1 : Array Slot), va_S (fun q : Nat => s.heap.size ≤ q) s.heap H1 locs1 → lv_has ls1 9 [(4, .int 0), (0, .ref b)] → W p l e room_1 s m #[Value.ref b] below meth c H1 locs1 600002 7302232 Q (F0 m 1781 ls1 [])) : W p l e room_1 s m #[Value.ref b] below meth c H locs 401 4242 Q (F0 m 924 ls []) := by
  obtain ⟨v0, hc, hr⟩ := pu_10 xs
  exact lc_10 l hst F hbl hX hZ hN hNc K hS hP hPr hO hl v0 hc hr kk
set_option maxRecDepth 100000 in
theorem lp_11 {p : Program} {e : Env} {s : State} {m : MethodId} {below : List Frame} {meth : Method} {c : Code} (l : Launch) (hst : l.stackTraces = false) {b : Nat} {xs : Nat → Int32} {D : va_G} {cA : Nat → ClassId} {ad rd : Nat → Nat} {ao : Nat} {g : Nat → Int64} {H : Heap} {locs : List Loc} {Q : State → Prop} {ls : Array Slot}
    (F : pt_F p m c code 9 s #[Value.ref b] RL D cA) (hbl : b < s.heap.size) (hX : va_X b 6 xs s s.heap) (hZ : px_Z (fun q : Nat => s.heap.size ≤ q) s s.heap) (hN : rt_Zs (rd 13) (rd 14) (fun q : Nat => s.heap.size ≤ q) s s.heap) (hNc : pw_N s) (K : pz_K ad rd ao s.heap.size) (hS : va_S (fun q : Nat => s.heap.size ≤ q) s.heap H locs)
    (hP : va_P D pt_cl (pt_W cA ad pt_M0) H) (hPr : va_P D pt_cl (rt_W cA rd pz_M0) H) (hO : va_P D pt_cl (pw_O cA ao g) H) (hl : lv_has ls 9 [(4, .int 0), (3, .ref ao), (2, .ref (rd 0)), (1, .ref (ad 0)), (0, .ref b)])
    (kk : ∀ (H1 : Heap) (locs1 : List Loc) (ls1 : Array Slot), va_S (fun q : Nat => s.heap.size ≤ q) s.heap H1 locs1 → lv_has ls1 9 [(4, .int 0), (0, .ref b)] → W p l e room_1 s m #[Value.ref b] below meth c H1 locs1 600002 7302232 Q (F0 m 1781 ls1 [])) : W p l e room_1 s m #[Value.ref b] below meth c H locs 401 4242 Q (F0 m 937 ls []) := by
  obtain ⟨v0, hc, hr⟩ := pu_11 xs
  exact lc_11 l hst F hbl hX hZ hN hNc K hS hP hPr hO hl v0 hc hr kk
set_option maxRecDepth 100000 in
theorem lp_12 {p : Program} {e : Env} {s : State} {m : MethodId} {below : List Frame} {meth : Method} {c : Code} (l : Launch) (hst : l.stackTraces = false) {b : Nat} {xs : Nat → Int32} {D : va_G} {cA : Nat → ClassId} {ad rd : Nat → Nat} {ao : Nat} {g : Nat → Int64} {H : Heap} {locs : List Loc} {Q : State → Prop} {ls : Array Slot}
    (F : pt_F p m c code 9 s #[Value.ref b] RL D cA) (hbl : b < s.heap.size) (hX : va_X b 6 xs s s.heap) (hZ : px_Z (fun q : Nat => s.heap.size ≤ q) s s.heap) (hN : rt_Zs (rd 13) (rd 14) (fun q : Nat => s.heap.size ≤ q) s s.heap) (hNc : pw_N s) (K : pz_K ad rd ao s.heap.size) (hS : va_S (fun q : Nat => s.heap.size ≤ q) s.heap H locs)
    (hP : va_P D pt_cl (pt_W cA ad pt_M0) H) (hPr : va_P D pt_cl (rt_W cA rd pz_M0) H) (hO : va_P D pt_cl (pw_O cA ao g) H) (hl : lv_has ls 9 [(4, .int 0), (3, .ref ao), (2, .ref (rd 0)), (1, .ref (ad 0)), (0, .ref b)])
    (kk : ∀ (H1 : Heap) (locs1 : List Loc) (ls1 : Array Slot), va_S (fun q : Nat => s.heap.size ≤ q) s.heap H1 locs1 → lv_has ls1 9 [(4, .int 0), (0, .ref b)] → W p l e room_1 s m #[Value.ref b] below meth c H1 locs1 600002 7302232 Q (F0 m 1781 ls1 [])) : W p l e room_1 s m #[Value.ref b] below meth c H locs 401 4242 Q (F0 m 950 ls []) := by
  obtain ⟨c0, v0, hc, hr⟩ := pu_12 xs
  exact lc_12 l hst F hbl hX hZ hN hNc K hS hP hPr hO hl c0 v0 hc hr kk
set_option maxRecDepth 100000 in
theorem lp_13 {p : Program} {e : Env} {s : State} {m : MethodId} {below : List Frame} {meth : Method} {c : Code} (l : Launch) (hst : l.stackTraces = false) {b : Nat} {xs : Nat → Int32} {D : va_G} {cA : Nat → ClassId} {ad rd : Nat → Nat} {ao : Nat} {g : Nat → Int64} {H : Heap} {locs : List Loc} {Q : State → Prop} {ls : Array Slot}
    (F : pt_F p m c code 9 s #[Value.ref b] RL D cA) (hbl : b < s.heap.size) (hX : va_X b 6 xs s s.heap) (hZ : px_Z (fun q : Nat => s.heap.size ≤ q) s s.heap) (hN : rt_Zs (rd 13) (rd 14) (fun q : Nat => s.heap.size ≤ q) s s.heap) (hNc : pw_N s) (K : pz_K ad rd ao s.heap.size) (hS : va_S (fun q : Nat => s.heap.size ≤ q) s.heap H locs)
    (hP : va_P D pt_cl (pt_W cA ad pt_M0) H) (hPr : va_P D pt_cl (rt_W cA rd pz_M0) H) (hO : va_P D pt_cl (pw_O cA ao g) H) (hl : lv_has ls 9 [(4, .int 0), (3, .ref ao), (2, .ref (rd 0)), (1, .ref (ad 0)), (0, .ref b)])
    (kk : ∀ (H1 : Heap) (locs1 : List Loc) (ls1 : Array Slot), va_S (fun q : Nat => s.heap.size ≤ q) s.heap H1 locs1 → lv_has ls1 9 [(4, .int 0), (0, .ref b)] → W p l e room_1 s m #[Value.ref b] below meth c H1 locs1 600002 7302232 Q (F0 m 1781 ls1 [])) : W p l e room_1 s m #[Value.ref b] below meth c H locs 401 4242 Q (F0 m 1018 ls []) := by
  obtain ⟨v0, hc, hr⟩ := pu_13 xs
  exact lc_13 l hst F hbl hX hZ hN hNc K hS hP hPr hO hl v0 hc hr kk
set_option maxRecDepth 100000 in
theorem lp_14 {p : Program} {e : Env} {s : State} {m : MethodId} {below : List Frame} {meth : Method} {c : Code} (l : Launch) (hst : l.stackTraces = false) {b : Nat} {xs : Nat → Int32} {D : va_G} {cA : Nat → ClassId} {ad rd : Nat → Nat} {ao : Nat} {g : Nat → Int64} {H : Heap} {locs : List Loc} {Q : State → Prop} {ls : Array Slot}
    (F : pt_F p m c code 9 s #[Value.ref b] RL D cA) (hbl : b < s.heap.size) (hX : va_X b 6 xs s s.heap) (hZ : px_Z (fun q : Nat => s.heap.size ≤ q) s s.heap) (hN : rt_Zs (rd 13) (rd 14) (fun q : Nat => s.heap.size ≤ q) s s.heap) (hNc : pw_N s) (K : pz_K ad rd ao s.heap.size) (hS : va_S (fun q : Nat => s.heap.size ≤ q) s.heap H locs)
    (hP : va_P D pt_cl (pt_W cA ad pt_M0) H) (hPr : va_P D pt_cl (rt_W cA rd pz_M0) H) (hO : va_P D pt_cl (pw_O cA ao g) H) (hl : lv_has ls 9 [(4, .int 0), (3, .ref ao), (2, .ref (rd 0)), (1, .ref (ad 0)), (0, .ref b)])
    (kk : ∀ (H1 : Heap) (locs1 : List Loc) (ls1 : Array Slot), va_S (fun q : Nat => s.heap.size ≤ q) s.heap H1 locs1 → lv_has ls1 9 [(4, .int 0), (0, .ref b)] → W p l e room_1 s m #[Value.ref b] below meth c H1 locs1 600002 7302232 Q (F0 m 1781 ls1 [])) : W p l e room_1 s m #[Value.ref b] below meth c H locs 401 4242 Q (F0 m 1031 ls []) := by
  obtain ⟨v0, hc, hr⟩ := pu_14 xs
  exact lc_14 l hst F hbl hX hZ hN hNc K hS hP hPr hO hl v0 hc hr kk
set_option maxRecDepth 100000 in
theorem lp_15 {p : Program} {e : Env} {s : State} {m : MethodId} {below : List Frame} {meth : Method} {c : Code} (l : Launch) (hst : l.stackTraces = false) {b : Nat} {xs : Nat → Int32} {D : va_G} {cA : Nat → ClassId} {ad rd : Nat → Nat} {ao : Nat} {g : Nat → Int64} {H : Heap} {locs : List Loc} {Q : State → Prop} {ls : Array Slot}
    (F : pt_F p m c code 9 s #[Value.ref b] RL D cA) (hbl : b < s.heap.size) (hX : va_X b 6 xs s s.heap) (hZ : px_Z (fun q : Nat => s.heap.size ≤ q) s s.heap) (hN : rt_Zs (rd 13) (rd 14) (fun q : Nat => s.heap.size ≤ q) s s.heap) (hNc : pw_N s) (K : pz_K ad rd ao s.heap.size) (hS : va_S (fun q : Nat => s.heap.size ≤ q) s.heap H locs)
    (hP : va_P D pt_cl (pt_W cA ad pt_M0) H) (hPr : va_P D pt_cl (rt_W cA rd pz_M0) H) (hO : va_P D pt_cl (pw_O cA ao g) H) (hl : lv_has ls 9 [(4, .int 0), (3, .ref ao), (2, .ref (rd 0)), (1, .ref (ad 0)), (0, .ref b)])
    (kk : ∀ (H1 : Heap) (locs1 : List Loc) (ls1 : Array Slot), va_S (fun q : Nat => s.heap.size ≤ q) s.heap H1 locs1 → lv_has ls1 9 [(4, .int 0), (0, .ref b)] → W p l e room_1 s m #[Value.ref b] below meth c H1 locs1 600002 7302232 Q (F0 m 1781 ls1 [])) : W p l e room_1 s m #[Value.ref b] below meth c H locs 401 4242 Q (F0 m 1044 ls []) := by
  obtain ⟨v0, hc, hr⟩ := pu_15 xs
  exact lc_15 l hst F hbl hX hZ hN hNc K hS hP hPr hO hl v0 hc hr kk
set_option maxRecDepth 100000 in
theorem lp_16 {p : Program} {e : Env} {s : State} {m : MethodId} {below : List Frame} {meth : Method} {c : Code} (l : Launch) (hst : l.stackTraces = false) {b : Nat} {xs : Nat → Int32} {D : va_G} {cA : Nat → ClassId} {ad rd : Nat → Nat} {ao : Nat} {g : Nat → Int64} {H : Heap} {locs : List Loc} {Q : State → Prop} {ls : Array Slot}
    (F : pt_F p m c code 9 s #[Value.ref b] RL D cA) (hbl : b < s.heap.size) (hX : va_X b 6 xs s s.heap) (hZ : px_Z (fun q : Nat => s.heap.size ≤ q) s s.heap) (hN : rt_Zs (rd 13) (rd 14) (fun q : Nat => s.heap.size ≤ q) s s.heap) (hNc : pw_N s) (K : pz_K ad rd ao s.heap.size) (hS : va_S (fun q : Nat => s.heap.size ≤ q) s.heap H locs)
    (hP : va_P D pt_cl (pt_W cA ad pt_M0) H) (hPr : va_P D pt_cl (rt_W cA rd pz_M0) H) (hO : va_P D pt_cl (pw_O cA ao g) H) (hl : lv_has ls 9 [(4, .int 0), (3, .ref ao), (2, .ref (rd 0)), (1, .ref (ad 0)), (0, .ref b)])
    (kk : ∀ (H1 : Heap) (locs1 : List Loc) (ls1 : Array Slot), va_S (fun q : Nat => s.heap.size ≤ q) s.heap H1 locs1 → lv_has ls1 9 [(4, .int 0), (0, .ref b)] → W p l e room_1 s m #[Value.ref b] below meth c H1 locs1 600002 7302232 Q (F0 m 1781 ls1 [])) : W p l e room_1 s m #[Value.ref b] below meth c H locs 401 4242 Q (F0 m 1057 ls []) := by
  obtain ⟨c0, v0, hc, hr⟩ := pu_16 xs
  exact lc_16 l hst F hbl hX hZ hN hNc K hS hP hPr hO hl c0 v0 hc hr kk
set_option maxRecDepth 100000 in
theorem lp_17 {p : Program} {e : Env} {s : State} {m : MethodId} {below : List Frame} {meth : Method} {c : Code} (l : Launch) (hst : l.stackTraces = false) {b : Nat} {xs : Nat → Int32} {D : va_G} {cA : Nat → ClassId} {ad rd : Nat → Nat} {ao : Nat} {g : Nat → Int64} {H : Heap} {locs : List Loc} {Q : State → Prop} {ls : Array Slot}
    (F : pt_F p m c code 9 s #[Value.ref b] RL D cA) (hbl : b < s.heap.size) (hX : va_X b 6 xs s s.heap) (hZ : px_Z (fun q : Nat => s.heap.size ≤ q) s s.heap) (hN : rt_Zs (rd 13) (rd 14) (fun q : Nat => s.heap.size ≤ q) s s.heap) (hNc : pw_N s) (K : pz_K ad rd ao s.heap.size) (hS : va_S (fun q : Nat => s.heap.size ≤ q) s.heap H locs)
    (hP : va_P D pt_cl (pt_W cA ad pt_M0) H) (hPr : va_P D pt_cl (rt_W cA rd pz_M0) H) (hO : va_P D pt_cl (pw_O cA ao g) H) (hl : lv_has ls 9 [(4, .int 0), (3, .ref ao), (2, .ref (rd 0)), (1, .ref (ad 0)), (0, .ref b)])
    (kk : ∀ (H1 : Heap) (locs1 : List Loc) (ls1 : Array Slot), va_S (fun q : Nat => s.heap.size ≤ q) s.heap H1 locs1 → lv_has ls1 9 [(4, .int 0), (0, .ref b)] → W p l e room_1 s m #[Value.ref b] below meth c H1 locs1 600002 7302232 Q (F0 m 1781 ls1 [])) : W p l e room_1 s m #[Value.ref b] below meth c H locs 401 4242 Q (F0 m 1120 ls []) := by
  obtain ⟨c0, v0, hc, hr⟩ := pu_17 xs
  exact lc_17 l hst F hbl hX hZ hN hNc K hS hP hPr hO hl c0 v0 hc hr kk
set_option maxRecDepth 100000 in
theorem lp_18 {p : Program} {e : Env} {s : State} {m : MethodId} {below : List Frame} {meth : Method} {c : Code} (l : Launch) (hst : l.stackTraces = false) {b : Nat} {xs : Nat → Int32} {D : va_G} {cA : Nat → ClassId} {ad rd : Nat → Nat} {ao : Nat} {g : Nat → Int64} {H : Heap} {locs : List Loc} {Q : State → Prop} {ls : Array Slot}
    (F : pt_F p m c code 9 s #[Value.ref b] RL D cA) (hbl : b < s.heap.size) (hX : va_X b 6 xs s s.heap) (hZ : px_Z (fun q : Nat => s.heap.size ≤ q) s s.heap) (hN : rt_Zs (rd 13) (rd 14) (fun q : Nat => s.heap.size ≤ q) s s.heap) (hNc : pw_N s) (K : pz_K ad rd ao s.heap.size) (hS : va_S (fun q : Nat => s.heap.size ≤ q) s.heap H locs)
    (hP : va_P D pt_cl (pt_W cA ad pt_M0) H) (hPr : va_P D pt_cl (rt_W cA rd pz_M0) H) (hO : va_P D pt_cl (pw_O cA ao g) H) (hl : lv_has ls 9 [(4, .int 0), (3, .ref ao), (2, .ref (rd 0)), (1, .ref (ad 0)), (0, .ref b)])
    (kk : ∀ (H1 : Heap) (locs1 : List Loc) (ls1 : Array Slot), va_S (fun q : Nat => s.heap.size ≤ q) s.heap H1 locs1 → lv_has ls1 9 [(4, .int 0), (0, .ref b)] → W p l e room_1 s m #[Value.ref b] below meth c H1 locs1 600002 7302232 Q (F0 m 1781 ls1 [])) : W p l e room_1 s m #[Value.ref b] below meth c H locs 401 4242 Q (F0 m 1176 ls []) := by
  obtain ⟨c0, v0, hc, hr⟩ := pu_18 xs
  exact lc_18 l hst F hbl hX hZ hN hNc K hS hP hPr hO hl c0 v0 hc hr kk
set_option maxRecDepth 100000 in
theorem lp_19 {p : Program} {e : Env} {s : State} {m : MethodId} {below : List Frame} {meth : Method} {c : Code} (l : Launch) (hst : l.stackTraces = false) {b : Nat} {xs : Nat → Int32} {D : va_G} {cA : Nat → ClassId} {ad rd : Nat → Nat} {ao : Nat} {g : Nat → Int64} {H : Heap} {locs : List Loc} {Q : State → Prop} {ls : Array Slot}
    (F : pt_F p m c code 9 s #[Value.ref b] RL D cA) (hbl : b < s.heap.size) (hX : va_X b 6 xs s s.heap) (hZ : px_Z (fun q : Nat => s.heap.size ≤ q) s s.heap) (hN : rt_Zs (rd 13) (rd 14) (fun q : Nat => s.heap.size ≤ q) s s.heap) (hNc : pw_N s) (K : pz_K ad rd ao s.heap.size) (hS : va_S (fun q : Nat => s.heap.size ≤ q) s.heap H locs)
    (hP : va_P D pt_cl (pt_W cA ad pt_M0) H) (hPr : va_P D pt_cl (rt_W cA rd pz_M0) H) (hO : va_P D pt_cl (pw_O cA ao g) H) (hl : lv_has ls 9 [(4, .int 0), (3, .ref ao), (2, .ref (rd 0)), (1, .ref (ad 0)), (0, .ref b)])
    (kk : ∀ (H1 : Heap) (locs1 : List Loc) (ls1 : Array Slot), va_S (fun q : Nat => s.heap.size ≤ q) s.heap H1 locs1 → lv_has ls1 9 [(4, .int 0), (0, .ref b)] → W p l e room_1 s m #[Value.ref b] below meth c H1 locs1 600002 7302232 Q (F0 m 1781 ls1 [])) : W p l e room_1 s m #[Value.ref b] below meth c H locs 401 4242 Q (F0 m 1232 ls []) := by
  obtain ⟨c0, v0, hc, hr⟩ := pu_19 xs
  exact lc_19 l hst F hbl hX hZ hN hNc K hS hP hPr hO hl c0 v0 hc hr kk
set_option maxRecDepth 100000 in
theorem lp_20 {p : Program} {e : Env} {s : State} {m : MethodId} {below : List Frame} {meth : Method} {c : Code} (l : Launch) (hst : l.stackTraces = false) {b : Nat} {xs : Nat → Int32} {D : va_G} {cA : Nat → ClassId} {ad rd : Nat → Nat} {ao : Nat} {g : Nat → Int64} {H : Heap} {locs : List Loc} {Q : State → Prop} {ls : Array Slot}
    (F : pt_F p m c code 9 s #[Value.ref b] RL D cA) (hbl : b < s.heap.size) (hX : va_X b 6 xs s s.heap) (hZ : px_Z (fun q : Nat => s.heap.size ≤ q) s s.heap) (hN : rt_Zs (rd 13) (rd 14) (fun q : Nat => s.heap.size ≤ q) s s.heap) (hNc : pw_N s) (K : pz_K ad rd ao s.heap.size) (hS : va_S (fun q : Nat => s.heap.size ≤ q) s.heap H locs)
    (hP : va_P D pt_cl (pt_W cA ad pt_M0) H) (hPr : va_P D pt_cl (rt_W cA rd pz_M0) H) (hO : va_P D pt_cl (pw_O cA ao g) H) (hl : lv_has ls 9 [(4, .int 0), (3, .ref ao), (2, .ref (rd 0)), (1, .ref (ad 0)), (0, .ref b)])
    (kk : ∀ (H1 : Heap) (locs1 : List Loc) (ls1 : Array Slot), va_S (fun q : Nat => s.heap.size ≤ q) s.heap H1 locs1 → lv_has ls1 9 [(4, .int 0), (0, .ref b)] → W p l e room_1 s m #[Value.ref b] below meth c H1 locs1 600002 7302232 Q (F0 m 1781 ls1 [])) : W p l e room_1 s m #[Value.ref b] below meth c H locs 401 4242 Q (F0 m 1288 ls []) := by
  obtain ⟨v0, hc, hr⟩ := pu_20 xs
  exact lc_20 l hst F hbl hX hZ hN hNc K hS hP hPr hO hl v0 hc hr kk
set_option maxRecDepth 100000 in
theorem lp_21 {p : Program} {e : Env} {s : State} {m : MethodId} {below : List Frame} {meth : Method} {c : Code} (l : Launch) (hst : l.stackTraces = false) {b : Nat} {xs : Nat → Int32} {D : va_G} {cA : Nat → ClassId} {ad rd : Nat → Nat} {ao : Nat} {g : Nat → Int64} {H : Heap} {locs : List Loc} {Q : State → Prop} {ls : Array Slot}
    (F : pt_F p m c code 9 s #[Value.ref b] RL D cA) (hbl : b < s.heap.size) (hX : va_X b 6 xs s s.heap) (hZ : px_Z (fun q : Nat => s.heap.size ≤ q) s s.heap) (hN : rt_Zs (rd 13) (rd 14) (fun q : Nat => s.heap.size ≤ q) s s.heap) (hNc : pw_N s) (K : pz_K ad rd ao s.heap.size) (hS : va_S (fun q : Nat => s.heap.size ≤ q) s.heap H locs)
    (hP : va_P D pt_cl (pt_W cA ad pt_M0) H) (hPr : va_P D pt_cl (rt_W cA rd pz_M0) H) (hO : va_P D pt_cl (pw_O cA ao g) H) (hl : lv_has ls 9 [(4, .int 0), (3, .ref ao), (2, .ref (rd 0)), (1, .ref (ad 0)), (0, .ref b)])
    (kk : ∀ (H1 : Heap) (locs1 : List Loc) (ls1 : Array Slot), va_S (fun q : Nat => s.heap.size ≤ q) s.heap H1 locs1 → lv_has ls1 9 [(4, .int 0), (0, .ref b)] → W p l e room_1 s m #[Value.ref b] below meth c H1 locs1 600002 7302232 Q (F0 m 1781 ls1 [])) : W p l e room_1 s m #[Value.ref b] below meth c H locs 401 4242 Q (F0 m 1301 ls []) := by
  obtain ⟨c0, v0, hc, hr⟩ := pu_21 xs
  exact lc_21 l hst F hbl hX hZ hN hNc K hS hP hPr hO hl c0 v0 hc hr kk
set_option maxRecDepth 100000 in
theorem lp_22 {p : Program} {e : Env} {s : State} {m : MethodId} {below : List Frame} {meth : Method} {c : Code} (l : Launch) (hst : l.stackTraces = false) {b : Nat} {xs : Nat → Int32} {D : va_G} {cA : Nat → ClassId} {ad rd : Nat → Nat} {ao : Nat} {g : Nat → Int64} {H : Heap} {locs : List Loc} {Q : State → Prop} {ls : Array Slot}
    (F : pt_F p m c code 9 s #[Value.ref b] RL D cA) (hbl : b < s.heap.size) (hX : va_X b 6 xs s s.heap) (hZ : px_Z (fun q : Nat => s.heap.size ≤ q) s s.heap) (hN : rt_Zs (rd 13) (rd 14) (fun q : Nat => s.heap.size ≤ q) s s.heap) (hNc : pw_N s) (K : pz_K ad rd ao s.heap.size) (hS : va_S (fun q : Nat => s.heap.size ≤ q) s.heap H locs)
    (hP : va_P D pt_cl (pt_W cA ad pt_M0) H) (hPr : va_P D pt_cl (rt_W cA rd pz_M0) H) (hO : va_P D pt_cl (pw_O cA ao g) H) (hl : lv_has ls 9 [(4, .int 0), (3, .ref ao), (2, .ref (rd 0)), (1, .ref (ad 0)), (0, .ref b)])
    (kk : ∀ (H1 : Heap) (locs1 : List Loc) (ls1 : Array Slot), va_S (fun q : Nat => s.heap.size ≤ q) s.heap H1 locs1 → lv_has ls1 9 [(4, .int 0), (0, .ref b)] → W p l e room_1 s m #[Value.ref b] below meth c H1 locs1 600002 7302232 Q (F0 m 1781 ls1 [])) : W p l e room_1 s m #[Value.ref b] below meth c H locs 401 4242 Q (F0 m 1357 ls []) := by
  obtain ⟨v0, hc, hr⟩ := pu_22 xs
  exact lc_22 l hst F hbl hX hZ hN hNc K hS hP hPr hO hl v0 hc hr kk
set_option maxRecDepth 100000 in
theorem lp_23 {p : Program} {e : Env} {s : State} {m : MethodId} {below : List Frame} {meth : Method} {c : Code} (l : Launch) (hst : l.stackTraces = false) {b : Nat} {xs : Nat → Int32} {D : va_G} {cA : Nat → ClassId} {ad rd : Nat → Nat} {ao : Nat} {g : Nat → Int64} {H : Heap} {locs : List Loc} {Q : State → Prop} {ls : Array Slot}
    (F : pt_F p m c code 9 s #[Value.ref b] RL D cA) (hbl : b < s.heap.size) (hX : va_X b 6 xs s s.heap) (hZ : px_Z (fun q : Nat => s.heap.size ≤ q) s s.heap) (hN : rt_Zs (rd 13) (rd 14) (fun q : Nat => s.heap.size ≤ q) s s.heap) (hNc : pw_N s) (K : pz_K ad rd ao s.heap.size) (hS : va_S (fun q : Nat => s.heap.size ≤ q) s.heap H locs)
    (hP : va_P D pt_cl (pt_W cA ad pt_M0) H) (hPr : va_P D pt_cl (rt_W cA rd pz_M0) H) (hO : va_P D pt_cl (pw_O cA ao g) H) (hl : lv_has ls 9 [(4, .int 0), (3, .ref ao), (2, .ref (rd 0)), (1, .ref (ad 0)), (0, .ref b)])
    (kk : ∀ (H1 : Heap) (locs1 : List Loc) (ls1 : Array Slot), va_S (fun q : Nat => s.heap.size ≤ q) s.heap H1 locs1 → lv_has ls1 9 [(4, .int 0), (0, .ref b)] → W p l e room_1 s m #[Value.ref b] below meth c H1 locs1 600002 7302232 Q (F0 m 1781 ls1 [])) : W p l e room_1 s m #[Value.ref b] below meth c H locs 401 4242 Q (F0 m 1370 ls []) := by
  obtain ⟨v0, hc, hr⟩ := pu_23 xs
  exact lc_23 l hst F hbl hX hZ hN hNc K hS hP hPr hO hl v0 hc hr kk
set_option maxRecDepth 100000 in
theorem lp_24 {p : Program} {e : Env} {s : State} {m : MethodId} {below : List Frame} {meth : Method} {c : Code} (l : Launch) (hst : l.stackTraces = false) {b : Nat} {xs : Nat → Int32} {D : va_G} {cA : Nat → ClassId} {ad rd : Nat → Nat} {ao : Nat} {g : Nat → Int64} {H : Heap} {locs : List Loc} {Q : State → Prop} {ls : Array Slot}
    (F : pt_F p m c code 9 s #[Value.ref b] RL D cA) (hbl : b < s.heap.size) (hX : va_X b 6 xs s s.heap) (hZ : px_Z (fun q : Nat => s.heap.size ≤ q) s s.heap) (hN : rt_Zs (rd 13) (rd 14) (fun q : Nat => s.heap.size ≤ q) s s.heap) (hNc : pw_N s) (K : pz_K ad rd ao s.heap.size) (hS : va_S (fun q : Nat => s.heap.size ≤ q) s.heap H locs)
    (hP : va_P D pt_cl (pt_W cA ad pt_M0) H) (hPr : va_P D pt_cl (rt_W cA rd pz_M0) H) (hO : va_P D pt_cl (pw_O cA ao g) H) (hl : lv_has ls 9 [(4, .int 0), (3, .ref ao), (2, .ref (rd 0)), (1, .ref (ad 0)), (0, .ref b)])
    (kk : ∀ (H1 : Heap) (locs1 : List Loc) (ls1 : Array Slot), va_S (fun q : Nat => s.heap.size ≤ q) s.heap H1 locs1 → lv_has ls1 9 [(4, .int 0), (0, .ref b)] → W p l e room_1 s m #[Value.ref b] below meth c H1 locs1 600002 7302232 Q (F0 m 1781 ls1 [])) : W p l e room_1 s m #[Value.ref b] below meth c H locs 401 4242 Q (F0 m 1383 ls []) := by
  obtain ⟨v0, hc, hr⟩ := pu_24 xs
  exact lc_24 l hst F hbl hX hZ hN hNc K hS hP hPr hO hl v0 hc hr kk
set_option maxRecDepth 100000 in
theorem lp_25 {p : Program} {e : Env} {s : State} {m : MethodId} {below : List Frame} {meth : Method} {c : Code} (l : Launch) (hst : l.stackTraces = false) {b : Nat} {xs : Nat → Int32} {D : va_G} {cA : Nat → ClassId} {ad rd : Nat → Nat} {ao : Nat} {g : Nat → Int64} {H : Heap} {locs : List Loc} {Q : State → Prop} {ls : Array Slot}
    (F : pt_F p m c code 9 s #[Value.ref b] RL D cA) (hbl : b < s.heap.size) (hX : va_X b 6 xs s s.heap) (hZ : px_Z (fun q : Nat => s.heap.size ≤ q) s s.heap) (hN : rt_Zs (rd 13) (rd 14) (fun q : Nat => s.heap.size ≤ q) s s.heap) (hNc : pw_N s) (K : pz_K ad rd ao s.heap.size) (hS : va_S (fun q : Nat => s.heap.size ≤ q) s.heap H locs)
    (hP : va_P D pt_cl (pt_W cA ad pt_M0) H) (hPr : va_P D pt_cl (rt_W cA rd pz_M0) H) (hO : va_P D pt_cl (pw_O cA ao g) H) (hl : lv_has ls 9 [(4, .int 0), (3, .ref ao), (2, .ref (rd 0)), (1, .ref (ad 0)), (0, .ref b)])
    (kk : ∀ (H1 : Heap) (locs1 : List Loc) (ls1 : Array Slot), va_S (fun q : Nat => s.heap.size ≤ q) s.heap H1 locs1 → lv_has ls1 9 [(4, .int 0), (0, .ref b)] → W p l e room_1 s m #[Value.ref b] below meth c H1 locs1 600002 7302232 Q (F0 m 1781 ls1 [])) : W p l e room_1 s m #[Value.ref b] below meth c H locs 401 4242 Q (F0 m 1396 ls []) := by
  obtain ⟨c0, v0, hc, hr⟩ := pu_25 xs
  exact lc_25 l hst F hbl hX hZ hN hNc K hS hP hPr hO hl c0 v0 hc hr kk
set_option maxRecDepth 100000 in
theorem lp_26 {p : Program} {e : Env} {s : State} {m : MethodId} {below : List Frame} {meth : Method} {c : Code} (l : Launch) (hst : l.stackTraces = false) {b : Nat} {xs : Nat → Int32} {D : va_G} {cA : Nat → ClassId} {ad rd : Nat → Nat} {ao : Nat} {g : Nat → Int64} {H : Heap} {locs : List Loc} {Q : State → Prop} {ls : Array Slot}
    (F : pt_F p m c code 9 s #[Value.ref b] RL D cA) (hbl : b < s.heap.size) (hX : va_X b 6 xs s s.heap) (hZ : px_Z (fun q : Nat => s.heap.size ≤ q) s s.heap) (hN : rt_Zs (rd 13) (rd 14) (fun q : Nat => s.heap.size ≤ q) s s.heap) (hNc : pw_N s) (K : pz_K ad rd ao s.heap.size) (hS : va_S (fun q : Nat => s.heap.size ≤ q) s.heap H locs)
    (hP : va_P D pt_cl (pt_W cA ad pt_M0) H) (hPr : va_P D pt_cl (rt_W cA rd pz_M0) H) (hO : va_P D pt_cl (pw_O cA ao g) H) (hl : lv_has ls 9 [(4, .int 0), (3, .ref ao), (2, .ref (rd 0)), (1, .ref (ad 0)), (0, .ref b)])
    (kk : ∀ (H1 : Heap) (locs1 : List Loc) (ls1 : Array Slot), va_S (fun q : Nat => s.heap.size ≤ q) s.heap H1 locs1 → lv_has ls1 9 [(4, .int 0), (0, .ref b)] → W p l e room_1 s m #[Value.ref b] below meth c H1 locs1 600002 7302232 Q (F0 m 1781 ls1 [])) : W p l e room_1 s m #[Value.ref b] below meth c H locs 401 4242 Q (F0 m 1452 ls []) := by
  obtain ⟨c0, v0, hc, hr⟩ := pu_26 xs
  exact lc_26 l hst F hbl hX hZ hN hNc K hS hP hPr hO hl c0 v0 hc hr kk
set_option maxRecDepth 100000 in
theorem lp_27 {p : Program} {e : Env} {s : State} {m : MethodId} {below : List Frame} {meth : Method} {c : Code} (l : Launch) (hst : l.stackTraces = false) {b : Nat} {xs : Nat → Int32} {D : va_G} {cA : Nat → ClassId} {ad rd : Nat → Nat} {ao : Nat} {g : Nat → Int64} {H : Heap} {locs : List Loc} {Q : State → Prop} {ls : Array Slot}
    (F : pt_F p m c code 9 s #[Value.ref b] RL D cA) (hbl : b < s.heap.size) (hX : va_X b 6 xs s s.heap) (hZ : px_Z (fun q : Nat => s.heap.size ≤ q) s s.heap) (hN : rt_Zs (rd 13) (rd 14) (fun q : Nat => s.heap.size ≤ q) s s.heap) (hNc : pw_N s) (K : pz_K ad rd ao s.heap.size) (hS : va_S (fun q : Nat => s.heap.size ≤ q) s.heap H locs)
    (hP : va_P D pt_cl (pt_W cA ad pt_M0) H) (hPr : va_P D pt_cl (rt_W cA rd pz_M0) H) (hO : va_P D pt_cl (pw_O cA ao g) H) (hl : lv_has ls 9 [(4, .int 0), (3, .ref ao), (2, .ref (rd 0)), (1, .ref (ad 0)), (0, .ref b)])
    (kk : ∀ (H1 : Heap) (locs1 : List Loc) (ls1 : Array Slot), va_S (fun q : Nat => s.heap.size ≤ q) s.heap H1 locs1 → lv_has ls1 9 [(4, .int 0), (0, .ref b)] → W p l e room_1 s m #[Value.ref b] below meth c H1 locs1 600002 7302232 Q (F0 m 1781 ls1 [])) : W p l e room_1 s m #[Value.ref b] below meth c H locs 401 4242 Q (F0 m 1508 ls []) := by
  obtain ⟨c0, v0, hc, hr⟩ := pu_27 xs
  exact lc_27 l hst F hbl hX hZ hN hNc K hS hP hPr hO hl c0 v0 hc hr kk
set_option maxRecDepth 100000 in
theorem lp_28 {p : Program} {e : Env} {s : State} {m : MethodId} {below : List Frame} {meth : Method} {c : Code} (l : Launch) (hst : l.stackTraces = false) {b : Nat} {xs : Nat → Int32} {D : va_G} {cA : Nat → ClassId} {ad rd : Nat → Nat} {ao : Nat} {g : Nat → Int64} {H : Heap} {locs : List Loc} {Q : State → Prop} {ls : Array Slot}
    (F : pt_F p m c code 9 s #[Value.ref b] RL D cA) (hbl : b < s.heap.size) (hX : va_X b 6 xs s s.heap) (hZ : px_Z (fun q : Nat => s.heap.size ≤ q) s s.heap) (hN : rt_Zs (rd 13) (rd 14) (fun q : Nat => s.heap.size ≤ q) s s.heap) (hNc : pw_N s) (K : pz_K ad rd ao s.heap.size) (hS : va_S (fun q : Nat => s.heap.size ≤ q) s.heap H locs)
    (hP : va_P D pt_cl (pt_W cA ad pt_M0) H) (hPr : va_P D pt_cl (rt_W cA rd pz_M0) H) (hO : va_P D pt_cl (pw_O cA ao g) H) (hl : lv_has ls 9 [(4, .int 0), (3, .ref ao), (2, .ref (rd 0)), (1, .ref (ad 0)), (0, .ref b)])
    (kk : ∀ (H1 : Heap) (locs1 : List Loc) (ls1 : Array Slot), va_S (fun q : Nat => s.heap.size ≤ q) s.heap H1 locs1 → lv_has ls1 9 [(4, .int 0), (0, .ref b)] → W p l e room_1 s m #[Value.ref b] below meth c H1 locs1 600002 7302232 Q (F0 m 1781 ls1 [])) : W p l e room_1 s m #[Value.ref b] below meth c H locs 401 4242 Q (F0 m 1552 ls []) := by
  obtain ⟨c0, v0, hc, hr⟩ := pu_28 xs
  exact lc_28 l hst F hbl hX hZ hN hNc K hS hP hPr hO hl c0 v0 hc hr kk
set_option maxRecDepth 100000 in
theorem lp_29 {p : Program} {e : Env} {s : State} {m : MethodId} {below : List Frame} {meth : Method} {c : Code} (l : Launch) (hst : l.stackTraces = false) {b : Nat} {xs : Nat → Int32} {D : va_G} {cA : Nat → ClassId} {ad rd : Nat → Nat} {ao : Nat} {g : Nat → Int64} {H : Heap} {locs : List Loc} {Q : State → Prop} {ls : Array Slot}
    (F : pt_F p m c code 9 s #[Value.ref b] RL D cA) (hbl : b < s.heap.size) (hX : va_X b 6 xs s s.heap) (hZ : px_Z (fun q : Nat => s.heap.size ≤ q) s s.heap) (hN : rt_Zs (rd 13) (rd 14) (fun q : Nat => s.heap.size ≤ q) s s.heap) (hNc : pw_N s) (K : pz_K ad rd ao s.heap.size) (hS : va_S (fun q : Nat => s.heap.size ≤ q) s.heap H locs)
    (hP : va_P D pt_cl (pt_W cA ad pt_M0) H) (hPr : va_P D pt_cl (rt_W cA rd pz_M0) H) (hO : va_P D pt_cl (pw_O cA ao g) H) (hl : lv_has ls 9 [(4, .int 0), (3, .ref ao), (2, .ref (rd 0)), (1, .ref (ad 0)), (0, .ref b)])
    (kk : ∀ (H1 : Heap) (locs1 : List Loc) (ls1 : Array Slot), va_S (fun q : Nat => s.heap.size ≤ q) s.heap H1 locs1 → lv_has ls1 9 [(4, .int 0), (0, .ref b)] → W p l e room_1 s m #[Value.ref b] below meth c H1 locs1 600002 7302232 Q (F0 m 1781 ls1 [])) : W p l e room_1 s m #[Value.ref b] below meth c H locs 401 4242 Q (F0 m 1620 ls []) := by
  obtain ⟨c0, v0, hc, hr⟩ := pu_29 xs
  exact lc_29 l hst F hbl hX hZ hN hNc K hS hP hPr hO hl c0 v0 hc hr kk
set_option maxRecDepth 100000 in
theorem lp_30 {p : Program} {e : Env} {s : State} {m : MethodId} {below : List Frame} {meth : Method} {c : Code} (l : Launch) (hst : l.stackTraces = false) {b : Nat} {xs : Nat → Int32} {D : va_G} {cA : Nat → ClassId} {ad rd : Nat → Nat} {ao : Nat} {g : Nat → Int64} {H : Heap} {locs : List Loc} {Q : State → Prop} {ls : Array Slot}
    (F : pt_F p m c code 9 s #[Value.ref b] RL D cA) (hbl : b < s.heap.size) (hX : va_X b 6 xs s s.heap) (hZ : px_Z (fun q : Nat => s.heap.size ≤ q) s s.heap) (hN : rt_Zs (rd 13) (rd 14) (fun q : Nat => s.heap.size ≤ q) s s.heap) (hNc : pw_N s) (K : pz_K ad rd ao s.heap.size) (hS : va_S (fun q : Nat => s.heap.size ≤ q) s.heap H locs)
    (hP : va_P D pt_cl (pt_W cA ad pt_M0) H) (hPr : va_P D pt_cl (rt_W cA rd pz_M0) H) (hO : va_P D pt_cl (pw_O cA ao g) H) (hl : lv_has ls 9 [(4, .int 0), (3, .ref ao), (2, .ref (rd 0)), (1, .ref (ad 0)), (0, .ref b)])
    (kk : ∀ (H1 : Heap) (locs1 : List Loc) (ls1 : Array Slot), va_S (fun q : Nat => s.heap.size ≤ q) s.heap H1 locs1 → lv_has ls1 9 [(4, .int 0), (0, .ref b)] → W p l e room_1 s m #[Value.ref b] below meth c H1 locs1 600002 7302232 Q (F0 m 1781 ls1 [])) : W p l e room_1 s m #[Value.ref b] below meth c H locs 401 4242 Q (F0 m 1688 ls []) := by
  obtain ⟨v0, hc, hr⟩ := pu_30 xs
  exact lc_30 l hst F hbl hX hZ hN hNc K hS hP hPr hO hl v0 hc hr kk
set_option maxRecDepth 100000 in
theorem lp_31 {p : Program} {e : Env} {s : State} {m : MethodId} {below : List Frame} {meth : Method} {c : Code} (l : Launch) (hst : l.stackTraces = false) {b : Nat} {xs : Nat → Int32} {D : va_G} {cA : Nat → ClassId} {ad rd : Nat → Nat} {ao : Nat} {g : Nat → Int64} {H : Heap} {locs : List Loc} {Q : State → Prop} {ls : Array Slot}
    (F : pt_F p m c code 9 s #[Value.ref b] RL D cA) (hbl : b < s.heap.size) (hX : va_X b 6 xs s s.heap) (hZ : px_Z (fun q : Nat => s.heap.size ≤ q) s s.heap) (hN : rt_Zs (rd 13) (rd 14) (fun q : Nat => s.heap.size ≤ q) s s.heap) (hNc : pw_N s) (K : pz_K ad rd ao s.heap.size) (hS : va_S (fun q : Nat => s.heap.size ≤ q) s.heap H locs)
    (hP : va_P D pt_cl (pt_W cA ad pt_M0) H) (hPr : va_P D pt_cl (rt_W cA rd pz_M0) H) (hO : va_P D pt_cl (pw_O cA ao g) H) (hl : lv_has ls 9 [(4, .int 0), (3, .ref ao), (2, .ref (rd 0)), (1, .ref (ad 0)), (0, .ref b)])
    (kk : ∀ (H1 : Heap) (locs1 : List Loc) (ls1 : Array Slot), va_S (fun q : Nat => s.heap.size ≤ q) s.heap H1 locs1 → lv_has ls1 9 [(4, .int 0), (0, .ref b)] → W p l e room_1 s m #[Value.ref b] below meth c H1 locs1 600002 7302232 Q (F0 m 1781 ls1 [])) : W p l e room_1 s m #[Value.ref b] below meth c H locs 401 4242 Q (F0 m 1713 ls []) := by
  obtain ⟨v0, hc, hr⟩ := pu_31 xs
  exact lc_31 l hst F hbl hX hZ hN hNc K hS hP hPr hO hl v0 hc hr kk
set_option maxRecDepth 100000 in
theorem lp_32 {p : Program} {e : Env} {s : State} {m : MethodId} {below : List Frame} {meth : Method} {c : Code} (l : Launch) (hst : l.stackTraces = false) {b : Nat} {xs : Nat → Int32} {D : va_G} {cA : Nat → ClassId} {ad rd : Nat → Nat} {ao : Nat} {g : Nat → Int64} {H : Heap} {locs : List Loc} {Q : State → Prop} {ls : Array Slot}
    (F : pt_F p m c code 9 s #[Value.ref b] RL D cA) (hbl : b < s.heap.size) (hX : va_X b 6 xs s s.heap) (hZ : px_Z (fun q : Nat => s.heap.size ≤ q) s s.heap) (hN : rt_Zs (rd 13) (rd 14) (fun q : Nat => s.heap.size ≤ q) s s.heap) (hNc : pw_N s) (K : pz_K ad rd ao s.heap.size) (hS : va_S (fun q : Nat => s.heap.size ≤ q) s.heap H locs)
    (hP : va_P D pt_cl (pt_W cA ad pt_M0) H) (hPr : va_P D pt_cl (rt_W cA rd pz_M0) H) (hO : va_P D pt_cl (pw_O cA ao g) H) (hl : lv_has ls 9 [(4, .int 0), (3, .ref ao), (2, .ref (rd 0)), (1, .ref (ad 0)), (0, .ref b)])
    (kk : ∀ (H1 : Heap) (locs1 : List Loc) (ls1 : Array Slot), va_S (fun q : Nat => s.heap.size ≤ q) s.heap H1 locs1 → lv_has ls1 9 [(4, .int 0), (0, .ref b)] → W p l e room_1 s m #[Value.ref b] below meth c H1 locs1 600002 7302232 Q (F0 m 1781 ls1 [])) : W p l e room_1 s m #[Value.ref b] below meth c H locs 401 4242 Q (F0 m 1726 ls []) := by
  obtain ⟨v0, hc, hr⟩ := pu_32 xs
  exact lc_32 l hst F hbl hX hZ hN hNc K hS hP hPr hO hl v0 hc hr kk
set_option maxRecDepth 100000 in
theorem lp_33 {p : Program} {e : Env} {s : State} {m : MethodId} {below : List Frame} {meth : Method} {c : Code} (l : Launch) (hst : l.stackTraces = false) {b : Nat} {xs : Nat → Int32} {D : va_G} {cA : Nat → ClassId} {ad rd : Nat → Nat} {ao : Nat} {g : Nat → Int64} {H : Heap} {locs : List Loc} {Q : State → Prop} {ls : Array Slot}
    (F : pt_F p m c code 9 s #[Value.ref b] RL D cA) (hbl : b < s.heap.size) (hX : va_X b 6 xs s s.heap) (hZ : px_Z (fun q : Nat => s.heap.size ≤ q) s s.heap) (hN : rt_Zs (rd 13) (rd 14) (fun q : Nat => s.heap.size ≤ q) s s.heap) (hNc : pw_N s) (K : pz_K ad rd ao s.heap.size) (hS : va_S (fun q : Nat => s.heap.size ≤ q) s.heap H locs)
    (hP : va_P D pt_cl (pt_W cA ad pt_M0) H) (hPr : va_P D pt_cl (rt_W cA rd pz_M0) H) (hO : va_P D pt_cl (pw_O cA ao g) H) (hl : lv_has ls 9 [(4, .int 0), (3, .ref ao), (2, .ref (rd 0)), (1, .ref (ad 0)), (0, .ref b)])
    (kk : ∀ (H1 : Heap) (locs1 : List Loc) (ls1 : Array Slot), va_S (fun q : Nat => s.heap.size ≤ q) s.heap H1 locs1 → lv_has ls1 9 [(4, .int 0), (0, .ref b)] → W p l e room_1 s m #[Value.ref b] below meth c H1 locs1 600002 7302232 Q (F0 m 1781 ls1 [])) : W p l e room_1 s m #[Value.ref b] below meth c H locs 401 4242 Q (F0 m 1767 ls []) := by
  obtain ⟨v0, hc, hr⟩ := pu_33 xs
  exact lc_33 l hst F hbl hX hZ hN hNc K hS hP hPr hO hl v0 hc hr kk
