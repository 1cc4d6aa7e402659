/-! what taken makes: a list that is new and empty, beside the objects -/
def rt_B0 (D : va_G) (cA : Nat → ClassId) (ad : Nat → Nat) : pt_M → State → Prop := fun M t => va_P D pt_cl [(ad 0, rt_cel cA ad 0 (M 0))] t.heap
def rt_L (D : va_G) (cA : Nat → ClassId) (ad : Nat → Nat) (sz q : Nat) (M : pt_M) (H : Heap) : Prop := va_P D pt_cl (rt_W cA ad M) H ∧ va_P D pt_cl [(q, .inr (13, [.int 0, .ref (ad 14), .int 0]))] H ∧ (∀ i, i < 13 → ad i ≠ q) ∧ sz ≤ q
theorem rt_Lmk {D : va_G} {cA : Nat → ClassId} {ad : Nat → Nat} {sz q : Nat} {M : pt_M} {H : Heap} (h1 : va_P D pt_cl (rt_W cA ad M) H) (h2 : va_P D pt_cl [(q, .inr (13, [.int 0, .ref (ad 14), .int 0]))] H) (h3 : va_D (rt_fr ad sz) (rt_W cA ad M ++ [(q, .inr (13, [.int 0, .ref (ad 14), .int 0]))])) : rt_L D cA ad sz q M H := by
  have hne : ∀ i, i < 13 → ad i ≠ q := fun i hi e => by
    have := h3.1 i 13 (ad i, rt_cel cA ad i (M i)) (q, .inr (13, [.int 0, .ref (ad 14), .int 0])) (by rw [List.getElem?_append_left (by simpa [rt_W] using hi)]; exact rt_W_get hi) rfl e
    omega
  refine ⟨h1, h2, hne, ?_⟩
  rcases h3.2 13 _ rfl with ⟨i, hi, e⟩ | h
  · exact absurd e.symm (hne i hi)
  · exact h
theorem rt_Lk {D : va_G} {ad : Nat → Nat} {q : Nat} {w : va_E} {H H1 : Heap} (h : va_P D pt_cl [(q, w)] H) (hq : ∀ i, i < 13 → ad i ≠ q) (ho : ∀ r : Nat, r < H.size → ¬ rt_fr ad H.size r → H1[r]? = H[r]?) : va_P D pt_cl [(q, w)] H1 := by
  intro k x hk
  have hlt := (h k x hk).lt
  have hx : x.1 = q := by
    match k, hk with
    | 0, hk => cases hk; rfl
    | k + 1, hk => simp at hk
  exact (h k x hk).kept (ho x.1 hlt (fun z => by
    rcases z with ⟨i, hi, e⟩ | z
    · exact hq i hi (e.symm.trans hx)
    · omega))
section RTL
variable {p : Program} {l : Launch} {e : Env} {R : Room} {s : State} {m : MethodId} {args : Array Value} {below : List Frame} {meth : Method} {c : Code} {H : Heap} {locs : List Loc} {cells slots : Nat} {Q : State → Prop}
variable {cc : ByteArray} {pc nL : Nat} {ls : Array Slot} {rest st : List Value} {D : va_G} {A : Nat → Prop} {cA : Nat → ClassId} {ad : Nat → Nat} {M : pt_M} {H0 : Heap} {own : String} {k sz q : Nat} {a : Array Value} {mc ms : Nat}
theorem rt_runVm (F : pt_F p m c cc nL s args own D cA) (hP : va_P D pt_cl (rt_W cA ad M) H) (hN : rt_Zs (ad 13) (ad 14) A s s.heap) (hS : va_S A s.heap H locs) (hA : ∀ q, rt_fr ad H.size q → A q) {ci : Nat} {fs As : List Value} (hc : rt_cel cA ad k (M k) = .inr (ci, fs)) (hk : k < 13) {C : String} {T : u_T} {N : Nat} (hcl : pt_cl[ci]? = some (C, T, N)) {y : MethodName} {bytes : ByteArray} {maxL index n : Nat} {ret : Option FieldType} {rm : Room} {Qc : Array Value → State → Outcome → State → Prop} {free : Addr → Prop}
    (hM : Met l y (Cond.code y bytes maxL ret :: lw_all) rm (va_Pc (.ref (ad k) :: As) (rt_P D cA ad H.size M)) Qc mc ms free) (h1 : Cond.code y bytes maxL ret ∈ lw_all) (h2 : Cond.methodLink own index y ∈ lw_all) (h5 : Cond.initialized y.cls ∈ lw_all) (h3 : Cond.instanceMethod y ∈ lw_all) (h4 : Cond.selects C y y ∈ lw_all) (hd : y.cls ≠ "java/lang/invoke/MethodHandle" ∧ y.cls ≠ "java/lang/invoke/VarHandle" ∧ (parseMethodDescriptor y.desc).map (fun d => d.parameters.length) = some n) (hrm : rm.cells = mc ∧ rm.slots = ms ∧ rm.frames + 1 ≤ R.frames ∧ 8 + (maxL + 11) + rm.locals ≤ R.locals)
    (hn : As.length = n) (hsz : ls.size = nL) (hst : st = As.reverse ++ .ref (ad k) :: rest) (hW : (rest.map fun v => v.category).sum ≤ 8) (hdg : decode cc pc = .ok (.invokevirtual index, 3)) (hcs : cells + mc ≤ R.cells ∧ slots + ms ≤ R.slots) :
    va_Run p l e R s m args below meth c H locs cells slots mc ms (F0 m pc ls st) rest (Qc (Value.ref (ad k) :: As).toArray) free :=
  va_runV (C := C) (b := ad k) (As := As) (rest := rest) F.1 hM ⟨⟨hrm.1, hrm.2.1, hrm.2.2.1, hrm.2.2.2, pt_kpay F h1, List.mem_cons_self, F.1.2.2.2.2 _ h1, F.1.2.2.2.2 _ h5, ⟨hd.1, hd.2.1⟩, pt_kn hd.2.2, F.1.2.2.2.2 _ h2⟩, F.1.2.2.2.2 _ h3, F.1.2.2.2.2 _ h4⟩ ⟨rt_blind, va_recv F.2 hP (ci := ci) (q0 := k) hcl (by rw [rt_W_get hk, hc]), rt_pre F hP hN hS hA⟩ rfl hn hsz hst (lv_room hW) hdg hcs
theorem rt_callim {Qi : Int32 → pt_M → Prop} (hr : va_Run p l e R s m args below meth c H locs cells slots mc ms (F0 m pc ls st) rest (va_Qi Qi (rt_B D cA ad) (rt_fr ad H.size) a) (rt_fr ad H.size)) (hS : va_S A H0 H locs) (hA : ∀ q, rt_fr ad H0.size q → A q)
    (kk : ∀ (r : Int32) (M1 : pt_M) (H1 : Heap) (locs1 : List Loc), Qi r M1 → va_P D pt_cl (rt_W cA ad M1) H1 → va_S A H0 H1 locs1 → H.size ≤ H1.size → (∀ q : Nat, q < H.size → ¬ rt_fr ad H.size q → H1[q]? = H[q]?) → W p l e R s m args below meth c H1 locs1 (cells + mc) (slots + ms) Q (F0 m (pc + 3) ls (.int r :: rest))) : W p l e R s m args below meth c H locs cells slots Q (F0 m pc ls st) :=
  va_calli hr hS (rt_frA hS hA).1 (rt_frA hS hA).2 (fun r M1 t H1 locs1 ht _ hq hB hz ho hS1 => kk r M1 H1 locs1 hq (by rw [← ht]; exact hB) hS1 hz ho)
theorem rt_callT {Qi : pt_M → Prop} (hr : va_Run p l e R s m args below meth c H locs cells slots mc ms (F0 m pc ls st) rest (va_Qr Qi (fun M q t => rt_L D cA ad H.size q M t.heap) (rt_fr ad H.size) a) (rt_fr ad H.size)) (hS : va_S A H0 H locs) (hA : ∀ q, rt_fr ad H0.size q → A q)
    (kk : ∀ (q : Nat) (M1 : pt_M) (H1 : Heap) (locs1 : List Loc), Qi M1 → rt_L D cA ad H0.size q M1 H1 → va_S A H0 H1 locs1 → W p l e R s m args below meth c H1 locs1 (cells + mc) (slots + ms) Q (F0 m (pc + 3) ls (.ref q :: rest))) : W p l e R s m args below meth c H locs cells slots Q (F0 m pc ls st) :=
  va_callr hr hS (rt_frA hS hA).1 (rt_frA hS hA).2 (fun M1 ra t H1 locs1 ht _ hq hB hz ho hS1 => kk ra M1 H1 locs1 hq (by rw [← ht]; exact ⟨hB.1, hB.2.1, hB.2.2.1, Nat.le_trans hS.1 hB.2.2.2⟩) hS1)
theorem rt_calliL (hP : rt_L D cA ad sz q M H) {Qi : Int32 → pt_M → Prop} (hr : va_Run p l e R s m args below meth c H locs cells slots 0 0 (F0 m pc ls st) rest (va_Qi Qi (rt_B D cA ad) (rt_fr ad H.size) a) (rt_fr ad H.size)) (hS : va_S A H0 H locs) (hA : ∀ q, rt_fr ad H0.size q → A q)
    (kk : ∀ (r : Int32) (M1 : pt_M) (H1 : Heap) (locs1 : List Loc), Qi r M1 → rt_L D cA ad sz q M1 H1 → va_S A H0 H1 locs1 → H.size ≤ H1.size → (∀ q : Nat, q < H.size → ¬ rt_fr ad H.size q → H1[q]? = H[q]?) → W p l e R s m args below meth c H1 locs1 cells slots Q (F0 m (pc + 3) ls (.int r :: rest))) : W p l e R s m args below meth c H locs cells slots Q (F0 m pc ls st) :=
  rt_calli hr hS hA (fun r M1 H1 locs1 hq hP1 hS1 hz ho => kk r M1 H1 locs1 hq ⟨hP1, rt_Lk hP.2.1 hP.2.2.1 ho, hP.2.2⟩ hS1 hz ho)
theorem rt_callvL (hP : rt_L D cA ad sz q M H) {Qi : pt_M → Prop} (hr : va_Run p l e R s m args below meth c H locs cells slots 0 0 (F0 m pc ls st) rest (va_Qv Qi (rt_B D cA ad) (rt_fr ad H.size) a) (rt_fr ad H.size)) (hS : va_S A H0 H locs) (hA : ∀ q, rt_fr ad H0.size q → A q)
    (kk : ∀ (M1 : pt_M) (H1 : Heap) (locs1 : List Loc), Qi M1 → rt_L D cA ad sz q M1 H1 → va_S A H0 H1 locs1 → H.size ≤ H1.size → (∀ q : Nat, q < H.size → ¬ rt_fr ad H.size q → H1[q]? = H[q]?) → W p l e R s m args below meth c H1 locs1 cells slots Q (F0 m (pc + 3) ls rest)) : W p l e R s m args below meth c H locs cells slots Q (F0 m pc ls st) :=
  rt_callv hr hS hA (fun M1 H1 locs1 hq hP1 hS1 hz ho => kk M1 H1 locs1 hq ⟨hP1, rt_Lk hP.2.1 hP.2.2.1 ho, hP.2.2⟩ hS1 hz ho)
theorem rt_call4L (hP : rt_L D cA ad sz q M H) {Qi : pt_M → Prop} (hr : va_Run p l e R s m args below meth c H locs cells slots 0 0 (F0 m pc ls st) rest (va_Qr Qi (rt_BR D cA ad) (rt_fr ad H.size) a) (rt_fr ad H.size)) (hS : va_S A H0 H locs) (hA : ∀ q, rt_fr ad H0.size q → A q)
    (kk : ∀ (M1 : pt_M) (H1 : Heap) (locs1 : List Loc), Qi M1 → rt_L D cA ad sz q M1 H1 → va_S A H0 H1 locs1 → H.size ≤ H1.size → (∀ q : Nat, q < H.size → ¬ rt_fr ad H.size q → H1[q]? = H[q]?) → W p l e R s m args below meth c H1 locs1 cells slots Q (F0 m (pc + 3) ls (.ref (ad 4) :: rest))) : W p l e R s m args below meth c H locs cells slots Q (F0 m pc ls st) :=
  rt_call4 hr hS hA (fun M1 H1 locs1 hq hP1 hS1 hz ho => kk M1 H1 locs1 hq ⟨hP1, rt_Lk hP.2.1 hP.2.2.1 ho, hP.2.2⟩ hS1 hz ho)
theorem rt_callpL {Qi : Int32 → Prop} {a : Array Value} (hr : va_Run p l e R s m args below meth c H locs cells slots 0 0 (F0 m pc ls st) rest (va_Qi (fun r (_ : Unit) => Qi r) (fun _ _ => True) (fun _ => False) a) (fun _ => False)) (hP : rt_L D cA ad sz q M H) (hS : va_S A H0 H locs)
    (kk : ∀ (r : Int32) (H1 : Heap) (locs1 : List Loc), Qi r → rt_L D cA ad sz q M H1 → va_S A H0 H1 locs1 → W p l e R s m args below meth c H1 locs1 cells slots Q (F0 m (pc + 3) ls (.int r :: rest))) : W p l e R s m args below meth c H locs cells slots Q (F0 m pc ls st) :=
  va_calli hr hS (fun _ _ h => h.elim) (fun _ h => h.elim) (fun r u t H1 locs1 ht _ hq _ hz ho hS1 => kk r H1 locs1 hq ⟨fun k q hk => (hP.1 k q hk).kept (ho q.1 (hP.1 k q hk).lt id), fun k q hk => (hP.2.1 k q hk).kept (ho q.1 (hP.2.1 k q hk).lt id), hP.2.2⟩ hS1)
theorem rt_Wlen : (rt_W cA ad M).length = 13 := by simp [rt_W]
theorem rt_key {y x : Nat × va_E} {k : Nat} (h : (rt_W cA ad M ++ [y])[k]? = some x) : (k < 13 ∧ (rt_W cA ad M)[k]? = some x) ∨ (k = 13 ∧ x = y) := by
  have len : (rt_W cA ad M).length = 13 := rt_Wlen
  rcases Nat.lt_or_ge k 13 with hk | hk
  · rw [List.getElem?_append_left (by omega)] at h
    exact Or.inl ⟨hk, h⟩
  · rw [List.getElem?_append_right (by omega), len] at h
    rcases Nat.eq_zero_or_pos (k - 13) with e | e
    · rw [e] at h
      cases h
      exact Or.inr ⟨by omega, rfl⟩
    · rw [List.getElem?_eq_none (by show 1 ≤ k - 13; omega)] at h
      cases h
theorem rt_LP (hP : rt_L D cA ad sz q M H) : va_P D pt_cl (rt_W cA ad M ++ [(q, .inr (13, [.int 0, .ref (ad 14), .int 0]))]) H := fun k x h => by
  rcases rt_key h with ⟨_, h1⟩ | ⟨_, h1⟩
  · exact hP.1 k x h1
  · rw [h1]
    exact hP.2.1 0 _ rfl
theorem rt_LD (hP : rt_L D cA ad sz q M H) (hD : va_D (rt_fr ad sz) (rt_W cA ad M)) : va_D (rt_fr ad sz) (rt_W cA ad M ++ [(q, .inr (13, [.int 0, .ref (ad 14), .int 0]))]) := by
  have nm : ∀ (k : Nat) (x : Nat × va_E), k < 13 → (rt_W cA ad M)[k]? = some x → x.1 = ad k := fun k x hk h => by
    rw [rt_W_get hk] at h
    cases h
    rfl
  refine ⟨fun i j x y hi hj e => ?_, fun k x h => ?_⟩
  · rcases rt_key hi with ⟨a, b⟩ | ⟨a, b⟩ <;> rcases rt_key hj with ⟨a', b'⟩ | ⟨a', b'⟩
    · exact hD.1 i j x y b b' e
    · subst b'
      exact absurd ((nm i x a b).symm.trans e) (hP.2.2.1 i a)
    · subst b
      exact absurd ((nm j y a' b').symm.trans e.symm) (hP.2.2.1 j a')
    · omega
  · rcases rt_key h with ⟨a, b⟩ | ⟨a, b⟩
    · exact hD.2 k x b
    · subst b
      exact Or.inr hP.2.2.2
theorem rt_Lof {M1 : pt_M} {H1 : Heap} (h : va_P D pt_cl (rt_W cA ad M1 ++ [(q, .inr (13, [.int 0, .ref (ad 14), .int 0]))]) H1) (hq : (∀ i, i < 13 → ad i ≠ q) ∧ sz ≤ q) : rt_L D cA ad sz q M1 H1 := by
  refine ⟨fun k x h1 => ?_, fun k x h1 => ?_, hq⟩
  · refine h k x ?_
    rw [List.getElem?_append_left (List.getElem?_eq_some_iff.mp h1).1]
    exact h1
  · match k, h1 with
    | 0, h1 =>
      refine h 13 x ?_
      rw [List.getElem?_append_right (by rw [rt_Wlen]; exact Nat.le_refl _), rt_Wlen]
      exact h1
    | k + 1, h1 => simp at h1
theorem rt_Lset {k : Nat} {z : Nat × va_E} (hk : k < 13) : (rt_W cA ad M ++ ([(q, .inr (13, [.int 0, .ref (ad 14), .int 0]))] : va_W)).set k z = (rt_W cA ad M).set k z ++ ([(q, .inr (13, [.int 0, .ref (ad 14), .int 0]))] : va_W) := by
  rw [List.set_append, if_pos (by rw [rt_Wlen]; exact hk)]
theorem rt_Lget {k : Nat} (hk : k < 13) : (rt_W cA ad M ++ ([(q, .inr (13, [.int 0, .ref (ad 14), .int 0]))] : va_W))[k]? = some (ad k, rt_cel cA ad k (M k)) := by
  rw [List.getElem?_append_left (by rw [rt_Wlen]; exact hk), rt_W_get hk]
theorem rt_putL (F : pt_F p m c cc nL s args own D cA) (hP : rt_L D cA ad sz q M H) (hD : ∀ M, va_D (rt_fr ad sz) (rt_W cA ad M)) (hS : va_S (rt_fr ad sz) H0 H locs) {ci : Nat} {fs : List Value} (hc : rt_cel cA ad k (M k) = .inr (ci, fs)) (hk : k < 13) {C ref : String} {T : u_T} {N index : Nat} (hin : ∀ w ∈ u_ws C T N, w ∈ lw_all) (ty0 : Nat → FieldType) (hty : ∀ k, k < N → parseFieldDescriptor (T k).2.2.1 = some (ty0 k)) (hnm : ∀ a, a < N → ∀ b, b < N → a ≠ b → (T a).2.1 ≠ (T b).2.1) (hcl : pt_cl[ci]? = some (C, T, N)) (j : Nat) (hj : j < N) (hlink : Cond.fieldLink own index ref (T j).2.1 (T j).2.2.1 ∈ lw_all) (hsame : (T j).1 = ref) (hfin : (T j).2.2.2 = false) {x : Int32} (hn : narrow (ty0 j) (.int x) = .int x) (hfit : fits (ty0 j) (.int x) = true) (hl : j < fs.length)
    (hc1 : rt_cel cA ad k (fun b => if b = j then x else M k b) = .inr (ci, fs.set j (.int x))) (hdg : decode cc pc = .ok (.putfield index, 3))
    (kk : ∀ (M1 : pt_M) (H1 : Heap) (locs1 : List Loc), M1 = pt_st M k j x → rt_L D cA ad sz q M1 H1 → va_S (rt_fr ad sz) H0 H1 locs1 → W p l e R s m args below meth c H1 locs1 cells slots Q (F0 m (pc + 3) ls rest)) : W p l e R s m args below meth c H locs cells slots Q (F0 m pc ls (.int x :: .ref (ad k) :: rest)) := by
  refine va_put (D := D) (ci := ci) (ty := ty0 j) F.1.1 F.1.2.1 F.1.2.2.2.2 hin ty0 hty hnm F.1.2.2.2.1 F.2 (rt_LP hP) (rt_LD hP (hD M)) hS k (fs := fs) (by rw [rt_Lget hk, hc]) hcl j hj (F.1.2.2.2.2 _ hlink) (fun x h => by rw [← hsame]; exact h) hfin (hty j hj) hn hfit hl hdg (fun H1 locs1 g1 _ g3 => ?_)
  rw [rt_Lset hk, rt_W_upd (M1 := pt_st M k j x) hk (by rw [pt_st_k]; exact hc1) (fun a h => pt_st_o h)] at g1
  exact kk _ H1 locs1 rfl (rt_Lof g1 hP.2.2) g3
theorem rt_iastL (F : pt_F p m c cc nL s args own D cA) (hP : rt_L D cA ad sz q M H) (hD : ∀ M, va_D (rt_fr ad sz) (rt_W cA ad M)) (hS : va_S (rt_fr ad sz) H0 H locs) {n : Nat} (h8 : rt_kd k = 21 ∧ rt_len k = n) {i x : Int32} (hin : vp_in i n) (hdg : decode cc pc = .ok (.iastore, 1))
    (kk : ∀ (M1 : pt_M) (H1 : Heap) (locs1 : List Loc), M1 = pt_st M k i.toNatClampNeg x → rt_L D cA ad sz q M1 H1 → va_S (rt_fr ad sz) H0 H1 locs1 → W p l e R s m args below meth c H1 locs1 cells slots Q (F0 m (pc + 1) ls rest)) : W p l e R s m args below meth c H locs cells slots Q (F0 m pc ls (.int x :: .int i :: .ref (ad k) :: rest)) := by
  refine va_iast (D := D) F.1.1 F.1.2.1 F.2 (rt_LP hP) (rt_LD hP (hD M)) hS k 0 (by rw [rt_Lget (rt_l21 h8.1), rt_c21 _ h8]) rfl hin hdg (fun H1 locs1 g1 _ g3 => ?_)
  rw [rt_Lset (rt_l21 h8.1), rt_W_upd (M1 := pt_st M k i.toNatClampNeg x) (rt_l21 h8.1) (by rw [pt_st_k]; exact rt_c21 _ h8) (fun a h => pt_st_o h)] at g1
  exact kk _ H1 locs1 rfl (rt_Lof g1 hP.2.2) g3
end RTL
theorem rt_szblind {D : va_G} {cA : Nat → ClassId} {Y : va_W} {As : List Value} : FrameBlind (va_Pc As (fun U => va_P D pt_cl Y U.heap ∧ va_K D pt_cl (pt_T cA) U)) := fun a U g mk q => ⟨q.1, q.2.1, va_K.moved (u := U) (U := U.calling g mk a) (Vm.Alike.refl U.vm) q.2.2⟩
set_option maxHeartbeats 4000000 in
set_option maxRecDepth 100000 in
theorem mtSZ0 (l : Launch) (D : va_G) (cA : Nat → ClassId) (q : Nat) (k : Int32) (e0 : Nat) (n : Int32) : Met l yJx4a65c_size_8abf5 (Cond.code yJx4a65c_size_8abf5 cJx4a65c_size_8abf5 1 (some .int) :: lw_all) ({ frames := 0, cells := 0, slots := 0, locals := 0 } : Room) (va_Pc [.ref q] (fun U => va_P D pt_cl [(q, .inr (13, [.int k, .ref e0, .int n]))] U.heap ∧ va_K D pt_cl (pt_T cA) U)) (va_Qi (fun (r : Int32) (_ : Unit) => r = n) (fun _ _ => True) (fun _ => False)) 0 0 (fun _ => False) := by
  refine Met.ofW (cc := cJx4a65c_size_8abf5) (maxL := 1) (ret := (some .int)) (by decide) rfl ?_
  intro p e s m args below meth c s₁ B hml hv
  obtain ⟨rfl, hP, hK⟩ := hv
  have hx := B.exec
  have hb := B.bytes
  have hr := B.returns
  have hts0 := atoms_spec (ws := (Cond.code yJx4a65c_size_8abf5 cJx4a65c_size_8abf5 1 (some .int) :: lw_all)) B.pre
  have hown : s.vm.findClass RJx4a65c = some m.cls := findClass_of_methodNamed B.named
  have hlocks := B.notSynchronized
  have F : pt_F p m c cJx4a65c_size_8abf5 1 s _ RJx4a65c D cA := ⟨⟨hx, hb, hml, hown, fun w h => hts0 w (List.mem_cons_of_mem _ h)⟩, hK⟩
  replace hP : va_P D pt_cl (([] : va_W) ++ [(q, .inr (13, [.int k, .ref e0, .int n]))]) s.heap := hP
  have hS : va_S (fun _ => False) s.heap s.heap [] := va_S.rf
  have hl := lv_entry ([.ref q]) (n := 1) (Nat.le_of_ble_eq_true rfl)
  rw [lg_entry_eq]
  generalize (lg_sl ([.ref q]) ++ List.replicate (1 - (lg_sl ([.ref q])).length) Slot.unset).toArray = ls at hl ⊢
  have hl : lv_has ls 1 [(0, .ref q)] := hl
  refine lv_aload_n hx hb dJx4a65c_size_8abf5_0 rfl (lv_at hl 0 rfl) ?_
  refine sx_get F hP 0 rfl inX13 rfl 2 (by decide) kw_973 rfl rfl dJx4a65c_size_8abf5_1 ?_
  exact W.iret (v := n) hx hb hr (fun t ht hW => ⟨⟨_, (), rfl, rfl, trivial⟩, hS.F ht⟩) (fun q hq => absurd hq List.not_mem_nil) dJx4a65c_size_8abf5_4
