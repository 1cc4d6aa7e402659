/-! ROWS FOR METHODS THAT RETURN OR THROW, over the engine's objects (behind the kit's rows on exceptions) -/
def px_Z (A : Nat → Prop) (U : State) (H : Heap) : Prop := vx_Zq Bundle.tN "UNASSIGNED_STACK" Bundle.steD A U H ∧ vx_Zq Bundle.tN "SUPPRESSED_SENTINEL" Bundle.listD A U H
/-- a start: the engine's objects hold M, and what an exception's constructor reads is there -/
def px_P (D : va_G) (cA : Nat → ClassId) (ad : Nat → Nat) (sz : Nat) (M : pt_M) : State → Prop := fun U => pt_P D cA ad sz M U ∧ px_Z (pt_fr ad sz) U U.heap
/-- an end by an exception: of its class E holds -/
def px_E (E : String → Prop) (ad : Nat → Nat) (sz : Nat) : String → State → State → Prop := vx_X (fun _ : Unit => True) (fun e _ _ => E e) (pt_fr ad sz)
theorem px_Z.moved {A : Nat → Prop} {u U : State} {H : Heap} (hvm : u.vm.Alike U.vm) (h : px_Z A u H) : px_Z A U H := ⟨vx_Zq.moved hvm h.1, vx_Zq.moved hvm h.2⟩
theorem px_Z.kept {A : Nat → Prop} {U : State} {H H1 : Heap} (h : px_Z A U H) (hq : ∀ a : Nat, a < H.size → ¬ A a → H1[a]? = H[a]?) : px_Z A U H1 := ⟨vx_Zq.kept h.1 hq, vx_Zq.kept h.2 hq⟩
theorem px_Z.narrow {A B : Nat → Prop} {U : State} {H : Heap} (h : px_Z A U H) (hAB : ∀ q, B q → A q) : px_Z B U H := ⟨vx_Zq.narrow h.1 hAB, vx_Zq.narrow h.2 hAB⟩
theorem px_blind {D : va_G} {cA : Nat → ClassId} {ad : Nat → Nat} {sz : Nat} {M : pt_M} {As : List Value} : FrameBlind (va_Pc As (px_P D cA ad sz M)) := fun a U g mk q => ⟨q.1, ⟨q.2.1.1, q.2.1.2.1, va_K.moved (u := U) (U := U.calling g mk a) (Vm.Alike.refl U.vm) q.2.1.2.2⟩, px_Z.moved (u := U) (U := U.calling g mk a) (Vm.Alike.refl U.vm) q.2.2⟩
section PXR
variable {p : Program} {l : Launch} {e : Env} {R : Room} {s : State} {m : MethodId} {args : Array Value} {below : List Frame} {meth : Method} {c : Code} {H : Heap} {locs : List Loc} {cells slots : Nat} {Q : State → Prop}
variable {cc : ByteArray} {pc nL : Nat} {ls : Array Slot} {rest st : List Value} {D : va_G} {A : Nat → Prop} {cA : Nat → ClassId} {ad : Nat → Nat} {M : pt_M} {H0 : Heap} {own : String} {k : Nat}
theorem px_B0 (F : pt_F p m c cc nL s args own D cA) {y : MethodName} {bytes : ByteArray} {maxL index n mc ms : Nat} {ret : Option FieldType} {rm : Room} (h1 : Cond.code y bytes maxL ret ∈ lw_all) (h2 : Cond.methodLink own index y ∈ lw_all) (h5 : Cond.initialized y.cls ∈ lw_all) (hd : y.cls ≠ "java/lang/invoke/MethodHandle" ∧ y.cls ≠ "java/lang/invoke/VarHandle" ∧ (parseMethodDescriptor y.desc).map (fun d => d.parameters.length) = some n) (hrm : rm.cells = mc ∧ rm.slots = ms ∧ rm.frames + 1 ≤ R.frames ∧ 8 + (maxL + 11) + rm.locals ≤ R.locals) :
    CallB R s args own index y bytes maxL ret (Cond.code y bytes maxL ret :: lw_all) rm mc ms n := by
  have hts := F.1.2.2.2.2
  refine ⟨hrm.1, hrm.2.1, hrm.2.2.1, hrm.2.2.2, ?_, List.mem_cons_self, hts _ h1, hts _ h5, ⟨hd.1, hd.2.1⟩, fun sig h => ?_, hts _ h2⟩
  · intro w hw a' U hW
    rcases List.mem_cons.mp hw with rfl | hw
    · exact pt_pay hts _ h1 a' U hW
    · exact pt_pay hts _ hw a' U hW
  · have h6 := hd.2.2
    rw [h] at h6
    exact (Option.some.inj h6).symm
theorem px_pre (F : pt_F p m c cc nL s args own D cA) (hP : va_P D pt_cl (pt_W cA ad M) H) (hZ : px_Z A s s.heap) (hS : va_S A s.heap H locs) (hA : ∀ q, pt_fr ad H.size q → A q) {As : List Value} (U : State) (hU : U.heap = H) (hW : s.WarmedH U.vm) : va_Pc As (px_P D cA ad H.size M) As.toArray U :=
  ⟨rfl, ⟨by rw [hU], by rw [hU]; exact hP, va_K.moved hW.alike F.2⟩, by rw [hU]; exact px_Z.moved hW.alike ((hZ.kept hS.2.1).narrow hA)⟩
theorem px_frs {sz sz' : Nat} (h : sz ≤ sz') : ∀ q, pt_fr ad sz' q → pt_fr ad sz q := fun q hq => hq.elim Or.inl (fun z => Or.inr (Nat.le_trans h z))
theorem px_runV (F : pt_F p m c cc nL s args own D cA) (hP : va_P D pt_cl (pt_W cA ad M) H) (hZ : px_Z A s s.heap) (hS : va_S A s.heap H locs) (hA : ∀ q, pt_fr ad H.size q → A q) {ci : Nat} {fs As : List Value} (hc : pt_cel cA ad k (M k) = .inr (ci, fs)) (hk : k < 387) {C : String} {T : u_T} {N : Nat} (hcl : pt_cl[ci]? = some (C, T, N)) {y : MethodName} {bytes : ByteArray} {maxL index n mc ms : Nat} {ret : Option FieldType} {rm : Room} {Qc : Array Value → State → Outcome → State → Prop} {XC : String → State → State → Prop} {free : Addr → Prop}
    (hM : vx_Met l y (Cond.code y bytes maxL ret :: lw_all) rm (va_Pc (.ref (ad k) :: As) (px_P D cA ad H.size M)) Qc XC mc ms free) (h1 : Cond.code y bytes maxL ret ∈ lw_all) (h2 : Cond.methodLink own index y ∈ lw_all) (h5 : Cond.initialized y.cls ∈ lw_all) (h3 : Cond.instanceMethod y ∈ lw_all) (h4 : Cond.selects C y y ∈ lw_all) (hd : y.cls ≠ "java/lang/invoke/MethodHandle" ∧ y.cls ≠ "java/lang/invoke/VarHandle" ∧ (parseMethodDescriptor y.desc).map (fun d => d.parameters.length) = some n) (hrm : rm.cells = mc ∧ rm.slots = ms ∧ rm.frames + 1 ≤ R.frames ∧ 8 + (maxL + 11) + rm.locals ≤ R.locals)
    (hn : As.length = n) (hsz : ls.size = nL) (hst : st = As.reverse ++ .ref (ad k) :: rest) (hW : (rest.map fun v => v.category).sum ≤ 8) (hdg : decode cc pc = .ok (.invokevirtual index, 3)) (hcs : cells + mc ≤ R.cells ∧ slots + ms ≤ R.slots) :
    vx_Run p l e R s m args below meth c H locs cells slots mc ms (F0 m pc ls st) rest (Qc (Value.ref (ad k) :: As).toArray) XC free :=
  vx_runV (C := C) (b := ad k) (As := As) (rest := rest) F.1 hM ⟨px_B0 F h1 h2 h5 hd hrm, F.1.2.2.2.2 _ h3, F.1.2.2.2.2 _ h4⟩ ⟨px_blind, va_recv F.2 hP (ci := ci) (q0 := k) hcl (by rw [pt_W_get hk, hc]), px_pre F hP hZ hS hA⟩ rfl hn hsz hst (lv_room hW) hdg hcs
theorem px_runS (F : pt_F p m c cc nL s args own D cA) (hP : va_P D pt_cl (pt_W cA ad M) H) (hZ : px_Z A s s.heap) (hS : va_S A s.heap H locs) (hA : ∀ q, pt_fr ad H.size q → A q) {As : List Value} {y : MethodName} {bytes : ByteArray} {maxL index n mc ms : Nat} {ret : Option FieldType} {rm : Room} {Qc : Array Value → State → Outcome → State → Prop} {XC : String → State → State → Prop} {free : Addr → Prop}
    (hM : vx_Met l y (Cond.code y bytes maxL ret :: lw_all) rm (va_Pc As (px_P D cA ad H.size M)) Qc XC mc ms free) (h1 : Cond.code y bytes maxL ret ∈ lw_all) (h2 : Cond.methodLink own index y ∈ lw_all) (h5 : Cond.initialized y.cls ∈ lw_all) (h3 : Cond.static y ∈ lw_all) (hd : y.cls ≠ "java/lang/invoke/MethodHandle" ∧ y.cls ≠ "java/lang/invoke/VarHandle" ∧ (parseMethodDescriptor y.desc).map (fun d => d.parameters.length) = some n) (hrm : rm.cells = mc ∧ rm.slots = ms ∧ rm.frames + 1 ≤ R.frames ∧ 8 + (maxL + 11) + rm.locals ≤ R.locals)
    (hn : As.length = n) (hsz : ls.size = nL) (hst : st = As.reverse ++ rest) (hW : (rest.map fun v => v.category).sum ≤ 8) (hdg : decode cc pc = .ok (.invokestatic index, 3)) (hcs : cells + mc ≤ R.cells ∧ slots + ms ≤ R.slots) :
    vx_Run p l e R s m args below meth c H locs cells slots mc ms (F0 m pc ls st) rest (Qc As.toArray) XC free :=
  vx_runS (As := As) (rest := rest) F.1 hM ⟨px_B0 F h1 h2 h5 hd hrm, F.1.2.2.2.2 _ h3⟩ ⟨px_blind, px_pre F hP hZ hS hA⟩ rfl hn hsz hst (lv_room hW) hdg hcs
variable {a : Array Value} {mc ms : Nat} {E : String → Prop}
theorem px_callv {Qi : pt_M → Prop} (hr : vx_Run p l e R s m args below meth c H locs cells slots mc ms (F0 m pc ls st) rest (va_Qv Qi (pt_B D cA ad) (pt_fr ad H.size) a) (px_E E ad H.size) (pt_fr ad H.size)) (hS : va_S A H0 H locs) (hA : ∀ q, pt_fr ad H0.size q → A q)
    (kx : ∀ (X : String) (ce : Cell) (q9 : Addr) (H1 : Heap) (locs1 : List Loc), E X → va_S A H0 H1 locs1 → H.size ≤ H1.size → (∀ q : Nat, q < H.size → ¬ pt_fr ad H.size q → H1[q]? = H[q]?) → H1[q9]? = some ce → ce.vm = .none → s.vm.findClass X = some ce.cls → vx_W p l e R s m args below meth c H1 locs1 (cells + mc) (slots + ms) Q (F0 m pc ls rest) q9)
    (kk : ∀ (M1 : pt_M) (H1 : Heap) (locs1 : List Loc), Qi M1 → va_P D pt_cl (pt_W cA ad M1) H1 → va_S A H0 H1 locs1 → H.size ≤ H1.size → (∀ q : Nat, q < H.size → ¬ pt_fr ad H.size q → H1[q]? = H[q]?) → W p l e R s m args below meth c H1 locs1 (cells + mc) (slots + ms) Q (F0 m (pc + 3) ls rest)) : W p l e R s m args below meth c H locs cells slots Q (F0 m pc ls st) :=
  vx_callv hr hS (pt_frA hS hA).1 (pt_frA hS hA).2 (pt_frA hS hA).1 (fun X ce q9 _ t H1 locs1 _ _ _ hE hz ho hS1 h1 h2 h3 => kx X ce q9 H1 locs1 hE hS1 hz ho h1 h2 h3) (fun M1 t H1 locs1 ht _ hq hB hz ho hS1 => kk M1 H1 locs1 hq (by rw [← ht]; exact hB) hS1 hz ho)
theorem px_calli {Qi : Int32 → pt_M → Prop} (hr : vx_Run p l e R s m args below meth c H locs cells slots mc ms (F0 m pc ls st) rest (va_Qi Qi (pt_B D cA ad) (pt_fr ad H.size) a) (px_E E ad H.size) (pt_fr ad H.size)) (hS : va_S A H0 H locs) (hA : ∀ q, pt_fr ad H0.size q → A q)
    (kx : ∀ (X : String) (ce : Cell) (q9 : Addr) (H1 : Heap) (locs1 : List Loc), E X → va_S A H0 H1 locs1 → H.size ≤ H1.size → (∀ q : Nat, q < H.size → ¬ pt_fr ad H.size q → H1[q]? = H[q]?) → H1[q9]? = some ce → ce.vm = .none → s.vm.findClass X = some ce.cls → vx_W p l e R s m args below meth c H1 locs1 (cells + mc) (slots + ms) Q (F0 m pc ls rest) q9)
    (kk : ∀ (r : Int32) (M1 : pt_M) (H1 : Heap) (locs1 : List Loc), Qi r M1 → va_P D pt_cl (pt_W cA ad M1) H1 → va_S A H0 H1 locs1 → H.size ≤ H1.size → (∀ q : Nat, q < H.size → ¬ pt_fr ad H.size q → H1[q]? = H[q]?) → W p l e R s m args below meth c H1 locs1 (cells + mc) (slots + ms) Q (F0 m (pc + 3) ls (.int r :: rest))) : W p l e R s m args below meth c H locs cells slots Q (F0 m pc ls st) :=
  vx_calli hr hS (pt_frA hS hA).1 (pt_frA hS hA).2 (pt_frA hS hA).1 (fun X ce q9 _ t H1 locs1 _ _ _ hE hz ho hS1 h1 h2 h3 => kx X ce q9 H1 locs1 hE hS1 hz ho h1 h2 h3) (fun r M1 t H1 locs1 ht _ hq hB hz ho hS1 => kk r M1 H1 locs1 hq (by rw [← ht]; exact hB) hS1 hz ho)
/-- the method itself ends so -/
theorem px_out {Qc : Array Value → State → Outcome → State → Prop} {X : String} {ce : Cell} {q : Addr} {mc ms : Nat} (hout : ∀ x ∈ c.exceptionTable.toList, False) (hlocks : meth.locks = false) (hE : E X) (hS : va_S (pt_fr ad s.heap.size) s.heap H locs) (hce : H[q]? = some ce) (hcv : ce.vm = .none) (hcl : s.vm.findClass X = some ce.cls) (hc : cells ≤ mc) (hs : slots ≤ ms) :
    vx_W p l e R s m args below meth c H locs cells slots (vx_MQ below Qc (px_E E ad s.heap.size) args s mc ms (pt_fr ad s.heap.size)) (F0 m pc ls rest) q :=
  vx_out (fun x hx => (hout x hx).elim) hlocks hce hcv hcl (fun t ht _ => ⟨(), trivial, hE, hS.F ht⟩) hS.2.2 hc hs
theorem px_F {t : State} (hS : va_S A s.heap H locs) (h1 : H.size ≤ t.heap.size) (h2 : ∀ q : Nat, q < H.size → t.heap[q]? = H[q]?) : va_F A s t := ⟨Nat.le_trans hS.1 h1, fun q hq hA => (h2 q (Nat.lt_of_lt_of_le hq hS.1)).trans (hS.2.1 q hq hA)⟩
/-- new, dup, <init>, athrow -/
theorem px_thr {Qc : Array Value → State → Outcome → State → Prop} {cls : String} {ik ic mc ms : Nat} (F : pt_F p m c cc nL s args own D cA) (hl : l.stackTraces = false) (hcls : Bundle.fit cls = true) (hk : Cond.classLink own ik cls ∈ lw_all) (hini : Cond.initialized cls ∈ lw_all) (hat : ∀ w ∈ vx_at0 own ic cls ["java/lang/RuntimeException", "java/lang/Exception"], w ∈ lw_all)
    (hgood : ∀ w ∈ Cond.classLink own ik cls :: Cond.initialized cls :: vx_at0 own ic cls ["java/lang/RuntimeException", "java/lang/Exception"], vx_ot w = true) (hZ : px_Z (pt_fr ad s.heap.size) s s.heap) (hS : va_S (pt_fr ad s.heap.size) s.heap H locs) (hsize : ls.size = nL)
    (d0 : decode cc pc = .ok (.new ik, 3)) (d3 : decode cc (pc + 3) = .ok (.dup, 1)) (d4 : decode cc (pc + 4) = .ok (.invokespecial ic, 3)) (d7 : decode cc (pc + 7) = .ok (.athrow, 1)) (hout : ∀ x ∈ c.exceptionTable.toList, False)
    (hRf : 5 < R.frames) (hRl : 81 ≤ R.locals) (hRc : cells + 1 ≤ R.cells) (hRs : slots + 6 ≤ R.slots) (hlocks : meth.locks = false) (hE : E cls) (hc : cells + 1 ≤ mc) (hs : slots + 6 ≤ ms) :
    W p l e R s m args below meth c H locs cells slots (vx_MQ below Qc (px_E E ad s.heap.size) args s mc ms (pt_fr ad s.heap.size)) (F0 m pc ls []) :=
  vx_throw0 F.1.1 F.1.2.1 hl F.1.2.2.2.1 hcls (by decide) (F.1.2.2.2.2 _ hk) (F.1.2.2.2.2 _ hini) (fun w h => F.1.2.2.2.2 _ (hat w h)) hgood hZ.1 hZ.2 hS (hsize.trans F.1.2.2.1.symm) d0 d3 d4 d7 (fun x hx => (hout x hx).elim) hRf (by show 0 + 81 ≤ _; omega) hRc hRs hlocks (fun t _ h1 h2 => ⟨(), trivial, hE, px_F hS h1 h2⟩) hS.2.2 hc hs
end PXR
set_option maxRecDepth 100000 in
theorem vatRX7_47 : ∀ w ∈ vx_at0 RX7 47 "java/lang/IllegalStateException" ["java/lang/RuntimeException", "java/lang/Exception"], w ∈ lw_all := by decide +kernel
set_option maxRecDepth 100000 in
theorem vgdRX7_47 : ∀ w ∈ Cond.classLink RX7 45 "java/lang/IllegalStateException" :: Cond.initialized "java/lang/IllegalStateException" :: vx_at0 RX7 47 "java/lang/IllegalStateException" ["java/lang/RuntimeException", "java/lang/Exception"], vx_ot w = true := by decide +kernel
set_option maxRecDepth 100000 in
theorem vatRX7_68 : ∀ w ∈ vx_at0 RX7 68 "java/lang/IllegalArgumentException" ["java/lang/RuntimeException", "java/lang/Exception"], w ∈ lw_all := by decide +kernel
set_option maxRecDepth 100000 in
theorem vgdRX7_68 : ∀ w ∈ Cond.classLink RX7 66 "java/lang/IllegalArgumentException" :: Cond.initialized "java/lang/IllegalArgumentException" :: vx_at0 RX7 68 "java/lang/IllegalArgumentException" ["java/lang/RuntimeException", "java/lang/Exception"], vx_ot w = true := by decide +kernel
set_option maxRecDepth 100000 in
theorem vatRX7_202 : ∀ w ∈ vx_at0 RX7 202 "java/lang/IndexOutOfBoundsException" ["java/lang/RuntimeException", "java/lang/Exception"], w ∈ lw_all := by decide +kernel
set_option maxRecDepth 100000 in
theorem vgdRX7_202 : ∀ w ∈ Cond.classLink RX7 200 "java/lang/IndexOutOfBoundsException" :: Cond.initialized "java/lang/IndexOutOfBoundsException" :: vx_at0 RX7 202 "java/lang/IndexOutOfBoundsException" ["java/lang/RuntimeException", "java/lang/Exception"], vx_ot w = true := by decide +kernel
