/-! a call that needs no world -/
section PURE
variable {p : Program} {l : Launch} {e : Env} {R : Room} {s : State} {m : MethodId} {args : Array Value} {below : List Frame} {meth : Method} {c : Code} {H : Heap} {locs : List Loc} {cells slots : Nat} {Q : State → Prop}
variable {cc : ByteArray} {pc nL : Nat} {ls : Array Slot} {rest st : List Value} {D : va_G} {A : Nat → Prop} {cA : Nat → ClassId} {B Y : va_W} {H0 : Heap} {own : String} {a : Nat}
theorem pt_runP (F : pt_F p m c cc nL s args own D cA) {As : List Value} {y : MethodName} {bytes : ByteArray} {maxL index n : Nat} {ret : Option FieldType} {rm : Room} {PU : State → Prop} {Qc : Array Value → State → Outcome → State → Prop} {free : Addr → Prop} {mc ms : Nat}
    (hM : Met l y (Cond.code y bytes maxL ret :: lw_all) rm (va_Pc As PU) Qc mc ms free) (hbl : FrameBlind (va_Pc As PU)) (hp : ∀ U : State, U.heap = H → s.WarmedH U.vm → PU U) (h1 : Cond.code y bytes maxL ret ∈ lw_all) (h2 : Cond.methodLink own index y ∈ lw_all) (h5 : Cond.initialized y.cls ∈ lw_all) (h3 : Cond.static y ∈ lw_all) (hd : y.cls ≠ "java/lang/invoke/MethodHandle" ∧ y.cls ≠ "java/lang/invoke/VarHandle" ∧ (parseMethodDescriptor y.desc).map (fun d => d.parameters.length) = some n) (hrm : rm.cells = mc ∧ rm.slots = ms ∧ rm.frames + 1 ≤ R.frames ∧ 8 + (maxL + 11) + rm.locals ≤ R.locals)
    (hn : As.length = n) (hsz : ls.size = nL) (hst : st = As.reverse ++ rest) (hW : (rest.map fun v => v.category).sum ≤ 8) (hdg : decode cc pc = .ok (.invokestatic index, 3)) (hcs : cells + mc ≤ R.cells ∧ slots + ms ≤ R.slots) :
    va_Run p l e R s m args below meth c H locs cells slots mc ms (F0 m pc ls st) rest (Qc As.toArray) free := by
  have hts := F.1.2.2.2.2
  refine va_runS (As := As) (rest := rest) F.1 hM ⟨⟨hrm.1, hrm.2.1, hrm.2.2.1, hrm.2.2.2, ?_, List.mem_cons_self, hts _ h1, hts _ h5, ⟨hd.1, hd.2.1⟩, fun sig h => ?_, hts _ h2⟩, hts _ h3⟩ ⟨hbl, fun U hU hW => ⟨rfl, hp U hU hW⟩⟩ rfl hn hsz hst (lv_room hW) hdg hcs
  · intro w hw a' U hW
    rcases List.mem_cons.mp hw with rfl | hw
    · exact pt_pay hts _ h1 a' U hW
    · exact pt_pay hts _ hw a' U hW
  · have h6 := hd.2.2
    rw [h] at h6
    exact (Option.some.inj h6).symm

theorem rt_callq {Qi : Int32 → Prop} {a : Array Value} (hr : va_Run p l e R s m args below meth c H locs cells slots 0 0 (F0 m pc ls st) rest (va_Qi (fun r (_ : Unit) => Qi r) (fun _ _ => True) (fun _ => False) a) (fun _ => False)) (hS : va_S A H0 H locs)
    (kk : ∀ (r : Int32) (H1 : Heap) (locs1 : List Loc), Qi r → va_S A H0 H1 locs1 → W p l e R s m args below meth c H1 locs1 cells slots Q (F0 m (pc + 3) ls (.int r :: rest))) : W p l e R s m args below meth c H locs cells slots Q (F0 m pc ls st) :=
  va_calli hr hS (fun _ _ h => h.elim) (fun _ h => h.elim) (fun r u t H1 locs1 ht _ hq _ hz ho hS1 => kk r H1 locs1 hq hS1)
end PURE
def rt_PK (D : va_G) (cA : Nat → ClassId) : State → Prop := fun U => va_K D pt_cl (pt_T cA) U
theorem rt_kblind {D : va_G} {cA : Nat → ClassId} {As : List Value} : FrameBlind (va_Pc As (rt_PK D cA)) := fun a U g mk q => ⟨q.1, va_K.moved (u := U) (U := U.calling g mk a) (Vm.Alike.refl U.vm) q.2⟩
abbrev tyX13 : Nat → FieldType := tyJx4a65c
theorem tyX13_ok : ∀ k, k < 3 → parseFieldDescriptor (TJx4a65c k).2.2.1 = some (tyX13 k) := tyJx4a65c_ok
theorem nmX13 : ∀ a, a < 3 → ∀ b, b < 3 → a ≠ b → (TJx4a65c a).2.1 ≠ (TJx4a65c b).2.1 := nmJx4a65c
/-! THE REFERENCE'S OBJECTS, numbered: 0 PuppetTheatreModel, 1 Chart, 2 states, 3 its Object[10], 4 the root's State, 5 transitions, 6 Run, 7 ages, 8 records, 9 variables, 10 fired, 11 queue, 12 row; 13 NOTHING and 14 ArrayList's empty array are statics' and never written. -/
def rt_kd (k : Nat) : Nat := if k = 0 then 12 else if k = 1 then 8 else if k = 2 ∨ k = 5 ∨ k = 11 then 13 else if k = 3 then 20 else if k = 4 then 10 else if k = 6 then 9 else if k < 13 then 21 else 22
def rt_len (k : Nat) : Nat := if k = 7 ∨ k = 8 then 20 else if k = 9 then 4 else if k = 10 then 30 else 0
def rt_el (k : Nat) : Nat := if k = 2 then 3 else 14
def rt_cel (cA : Nat → ClassId) (ad : Nat → Nat) (k : Nat) (m : Nat → Int32) : va_E := match rt_kd k with
  | 12 => .inr (12, [.int (m 0), .ref (ad 1), .ref (ad 6), .ref (ad 12), .int (m 4)])
  | 8 => .inr (8, [.ref (ad 2), .ref (ad 5)])
  | 13 => .inr (13, [.int (m 0), .ref (ad (rt_el k)), .int (m 2)])
  | 20 => .inl (cA 4, 10, .inr (.inr (.inr (.inr (fun i => if i = 0 then some (ad 4) else none)))))
  | 10 => .inr (10, [.int (m 0), .int (m 1), .int (m 2), .ref (ad 13), .ref (ad 13)])
  | 9 => .inr (9, [.int (m 0), .int (m 1), .ref (ad 7), .ref (ad 8), .ref (ad 9), .ref (ad 10), .ref (ad 11), .int (m 7), .int (m 8), .int (m 9), .ref (ad 0)])
  | _ => .inl (cA 0, rt_len k, .inl m)
def rt_W (cA : Nat → ClassId) (ad : Nat → Nat) (M : pt_M) : va_W := (List.range 13).map fun k => (ad k, rt_cel cA ad k (M k))
/-- the statics: x is NOTHING, y is ArrayList's empty array; nobody writes them -/
def rt_Zs (x y : Nat) (A : Nat → Prop) (U : State) (H : Heap) : Prop := va_T .int x 3 (fun _ => .int 0) A U H ∧ va_T (.object "java/lang/Object") y 0 (fun _ => .null) A U H ∧ va_Z "java/util/ArrayList" "DEFAULTCAPACITY_EMPTY_ELEMENTDATA" "[Ljava/lang/Object;" (.ref y) A U H ∧ va_Z "PuppetTheatreModel" "NOTHING" "[I" (.ref x) A U H
theorem rt_Zs.moved {x y : Nat} {A : Nat → Prop} {u U : State} {H : Heap} (hvm : u.vm.Alike U.vm) (h : rt_Zs x y A u H) : rt_Zs x y A U H := ⟨va_T.moved hvm h.1, va_T.moved hvm h.2.1, va_Z.moved hvm h.2.2.1, va_Z.moved hvm h.2.2.2⟩
theorem rt_Zs.kept {x y : Nat} {A : Nat → Prop} {U : State} {H H1 : Heap} (h : rt_Zs x y A U H) (hq : ∀ a : Nat, a < H.size → ¬ A a → H1[a]? = H[a]?) : rt_Zs x y A U H1 := ⟨h.1.kept hq, h.2.1.kept hq, h.2.2.1.kept hq, h.2.2.2.kept hq⟩
theorem rt_Zs.narrow {x y : Nat} {A B : Nat → Prop} {U : State} {H : Heap} (h : rt_Zs x y A U H) (hAB : ∀ q, B q → A q) : rt_Zs x y B U H := ⟨h.1.narrow hAB, h.2.1.narrow hAB, h.2.2.1.narrow hAB, h.2.2.2.narrow hAB⟩
theorem rt_lt {k : Nat} (h : rt_kd k ≠ 22) : k < 13 := by
  unfold rt_kd at h
  rcases Nat.lt_or_ge k 13 with q | q
  · exact q
  · exfalso
    apply h
    rw [if_neg (by omega), if_neg (by omega), if_neg (by omega), if_neg (by omega), if_neg (by omega), if_neg (by omega), if_neg (by omega)]
theorem rt_l12 {k : Nat} (h : rt_kd k = 12) : k < 13 := rt_lt (by rw [h]; decide)
theorem rt_l8 {k : Nat} (h : rt_kd k = 8) : k < 13 := rt_lt (by rw [h]; decide)
theorem rt_l13 {k : Nat} (h : rt_kd k = 13) : k < 13 := rt_lt (by rw [h]; decide)
theorem rt_l20 {k : Nat} (h : rt_kd k = 20) : k < 13 := rt_lt (by rw [h]; decide)
theorem rt_l10 {k : Nat} (h : rt_kd k = 10) : k < 13 := rt_lt (by rw [h]; decide)
theorem rt_l9 {k : Nat} (h : rt_kd k = 9) : k < 13 := rt_lt (by rw [h]; decide)
theorem rt_l21 {k : Nat} (h : rt_kd k = 21) : k < 13 := rt_lt (by rw [h]; decide)
section RTC
variable {cA : Nat → ClassId} {ad : Nat → Nat} {k : Nat} (m : Nat → Int32)
theorem rt_c12 (h : rt_kd k = 12) : rt_cel cA ad k m = .inr (12, [.int (m 0), .ref (ad 1), .ref (ad 6), .ref (ad 12), .int (m 4)]) := by unfold rt_cel; rw [h]; rfl
theorem rt_c8 (h : rt_kd k = 8) : rt_cel cA ad k m = .inr (8, [.ref (ad 2), .ref (ad 5)]) := by unfold rt_cel; rw [h]; rfl
theorem rt_c13 (h : rt_kd k = 13) : rt_cel cA ad k m = .inr (13, [.int (m 0), .ref (ad (rt_el k)), .int (m 2)]) := by unfold rt_cel; rw [h]; rfl
theorem rt_c10 (h : rt_kd k = 10) : rt_cel cA ad k m = .inr (10, [.int (m 0), .int (m 1), .int (m 2), .ref (ad 13), .ref (ad 13)]) := by unfold rt_cel; rw [h]; rfl
theorem rt_c9 (h : rt_kd k = 9) : rt_cel cA ad k m = .inr (9, [.int (m 0), .int (m 1), .ref (ad 7), .ref (ad 8), .ref (ad 9), .ref (ad 10), .ref (ad 11), .int (m 7), .int (m 8), .int (m 9), .ref (ad 0)]) := by unfold rt_cel; rw [h]; rfl
theorem rt_c21 {n : Nat} (h : rt_kd k = 21 ∧ rt_len k = n) : rt_cel cA ad k m = .inl (cA 0, n, .inl m) := by unfold rt_cel; rw [h.1, h.2]; rfl
theorem rt_c3 : rt_cel cA ad 3 m = .inl (cA 4, 10, .inr (.inr (.inr (.inr (fun i => if i = 0 then some (ad 4) else none))))) := rfl
end RTC
theorem rt_k0 : rt_kd 0 = 12 := by decide
theorem rt_k1 : rt_kd 1 = 8 := by decide
theorem rt_k2 : rt_kd 2 = 13 := by decide
theorem rt_k4 : rt_kd 4 = 10 := by decide
theorem rt_k5 : rt_kd 5 = 13 := by decide
theorem rt_k6 : rt_kd 6 = 9 := by decide
theorem rt_k11 : rt_kd 11 = 13 := by decide
theorem rt_a7 : rt_kd 7 = 21 ∧ rt_len 7 = 20 := by decide
theorem rt_a8 : rt_kd 8 = 21 ∧ rt_len 8 = 20 := by decide
theorem rt_a9 : rt_kd 9 = 21 ∧ rt_len 9 = 4 := by decide
theorem rt_a10 : rt_kd 10 = 21 ∧ rt_len 10 = 30 := by decide
theorem rt_a12 : rt_kd 12 = 21 ∧ rt_len 12 = 0 := by decide
theorem rt_W_get {cA : Nat → ClassId} {ad : Nat → Nat} {M : pt_M} {k : Nat} (hk : k < 13) : (rt_W cA ad M)[k]? = some (ad k, rt_cel cA ad k (M k)) := by simp [rt_W, hk]
theorem rt_W_upd {cA : Nat → ClassId} {ad : Nat → Nat} {M M1 : pt_M} {k : Nat} {e : va_E} (hk : k < 13) (he : rt_cel cA ad k (M1 k) = e) (ho : ∀ a, a ≠ k → M1 a = M a) : (rt_W cA ad M).set k (ad k, e) = rt_W cA ad M1 := by
  apply List.ext_getElem?
  intro i
  rw [List.getElem?_set]
  rcases Nat.lt_or_ge i 13 with hi | hi
  · by_cases h : k = i
    · subst h
      rw [if_pos rfl, if_pos (by simp [rt_W, hk]), rt_W_get hi, he]
    · rw [if_neg h, rt_W_get hi, rt_W_get hi, ho i (fun q => h q.symm)]
  · have h1 : (rt_W cA ad M)[i]? = none := List.getElem?_eq_none (by simp [rt_W, hi])
    have h2 : (rt_W cA ad M1)[i]? = none := List.getElem?_eq_none (by simp [rt_W, hi])
    rw [if_neg (by omega), h1, h2]
def rt_fr (ad : Nat → Nat) (sz : Nat) : Nat → Prop := fun q => (∃ k, k < 13 ∧ q = ad k) ∨ sz ≤ q
def rt_I (ad : Nat → Nat) : Prop := ∀ i j, i < 13 → j < 13 → ad i = ad j → i = j
theorem rt_D {cA : Nat → ClassId} {ad : Nat → Nat} (hI : rt_I ad) {A : Nat → Prop} (hA : ∀ k, k < 13 → A (ad k)) (M : pt_M) : va_D A (rt_W cA ad M) := by
  have key : ∀ (k : Nat) (q : Nat × va_E), (rt_W cA ad M)[k]? = some q → k < 13 ∧ q.1 = ad k := by
    intro k q h
    have hk : k < 13 := by
      have := (List.getElem?_eq_some_iff.mp h).1
      simpa [rt_W] using this
    rw [rt_W_get hk] at h
    cases h
    exact ⟨hk, rfl⟩
  refine ⟨fun i j p q hi hj e => ?_, fun k q h => ?_⟩
  · obtain ⟨a1, a2⟩ := key i p hi
    obtain ⟨b1, b2⟩ := key j q hj
    exact hI i j a1 b1 (a2.symm.trans (e.trans b2))
  · obtain ⟨a1, a2⟩ := key k q h
    rw [a2]
    exact hA k a1
/-- a method's start, and its end -/
def rt_P (D : va_G) (cA : Nat → ClassId) (ad : Nat → Nat) (sz : Nat) (M : pt_M) : State → Prop := fun U => U.heap.size = sz ∧ va_P D pt_cl (rt_W cA ad M) U.heap ∧ va_K D pt_cl (pt_T cA) U ∧ rt_Zs (ad 13) (ad 14) (rt_fr ad sz) U U.heap
def rt_B (D : va_G) (cA : Nat → ClassId) (ad : Nat → Nat) : pt_M → State → Prop := fun M t => va_P D pt_cl (rt_W cA ad M) t.heap
theorem rt_blind {D : va_G} {cA : Nat → ClassId} {ad : Nat → Nat} {sz : Nat} {M : pt_M} {As : List Value} : FrameBlind (va_Pc As (rt_P D cA ad sz M)) := fun a U g mk q => ⟨q.1, q.2.1, q.2.2.1, va_K.moved (u := U) (U := U.calling g mk a) (Vm.Alike.refl U.vm) q.2.2.2.1, rt_Zs.moved (u := U) (U := U.calling g mk a) (Vm.Alike.refl U.vm) q.2.2.2.2⟩
theorem rt_frs {ad : Nat → Nat} {sz sz' : Nat} (h : sz ≤ sz') : ∀ q, rt_fr ad sz' q → rt_fr ad sz q := fun q hq => hq.elim Or.inl (fun z => Or.inr (Nat.le_trans h z))
section RTR
variable {p : Program} {l : Launch} {e : Env} {R : Room} {s : State} {m : MethodId} {args : Array Value} {below : List Frame} {meth : Method} {c : Code} {H : Heap} {locs : List Loc} {cells slots : Nat} {Q : State → Prop}
variable {cc : ByteArray} {pc nL : Nat} {ls : Array Slot} {rest st : List Value} {D : va_G} {A : Nat → Prop} {cA : Nat → ClassId} {ad : Nat → Nat} {M : pt_M} {H0 : Heap} {own : String} {k : Nat}
theorem rt_pre (F : pt_F p m c cc nL s args own D cA) (hP : va_P D pt_cl (rt_W cA ad M) H) (hN : rt_Zs (ad 13) (ad 14) A s s.heap) (hS : va_S A s.heap H locs) (hA : ∀ q, rt_fr ad H.size q → A q) {As : List Value} (U : State) (hU : U.heap = H) (hW : s.WarmedH U.vm) : va_Pc As (rt_P D cA ad H.size M) As.toArray U := ⟨rfl, by rw [hU], by rw [hU]; exact hP, va_K.moved hW.alike F.2, by rw [hU]; exact rt_Zs.moved hW.alike ((hN.kept hS.2.1).narrow hA)⟩
theorem rt_get (F : pt_F p m c cc nL s args own D cA) (hP : va_P D pt_cl (rt_W cA ad M) H) {ci : Nat} {fs : List Value} (hc : rt_cel cA ad k (M k) = .inr (ci, fs)) (hk : k < 13) {C ref : String} {T : u_T} {N index : Nat} (hin : ∀ w ∈ u_ws C T N, w ∈ lw_all) (hcl : pt_cl[ci]? = some (C, T, N)) (j : Nat) (hj : j < N) (hlink : Cond.fieldLink own index ref (T j).2.1 (T j).2.2.1 ∈ lw_all) (hsame : (T j).1 = ref) {v : Value} (hv : fs[j]? = some v) (hdg : decode cc pc = .ok (.getfield index, 3))
    (kk : W p l e R s m args below meth c H locs cells slots Q (F0 m (pc + 3) ls (v :: rest))) : W p l e R s m args below meth c H locs cells slots Q (F0 m pc ls (.ref (ad k) :: rest)) :=
  va_get (D := D) (ci := ci) F.1.1 F.1.2.1 F.1.2.2.2.2 hin F.1.2.2.2.1 F.2 hP k (by rw [rt_W_get hk, hc]) hcl j hj (F.1.2.2.2.2 _ hlink) (fun x h => by rw [← hsame]; exact h) hv hdg kk
theorem rt_put (F : pt_F p m c cc nL s args own D cA) (hP : va_P D pt_cl (rt_W cA ad M) H) (hD : ∀ M, va_D A (rt_W cA ad M)) (hS : va_S A H0 H locs) {ci : Nat} {fs : List Value} (hc : rt_cel cA ad k (M k) = .inr (ci, fs)) (hk : k < 13) {C ref : String} {T : u_T} {N index : Nat} (hin : ∀ w ∈ u_ws C T N, w ∈ lw_all) (ty0 : Nat → FieldType) (hty : ∀ k, k < N → parseFieldDescriptor (T k).2.2.1 = some (ty0 k)) (hnm : ∀ a, a < N → ∀ b, b < N → a ≠ b → (T a).2.1 ≠ (T b).2.1) (hcl : pt_cl[ci]? = some (C, T, N)) (j : Nat) (hj : j < N) (hlink : Cond.fieldLink own index ref (T j).2.1 (T j).2.2.1 ∈ lw_all) (hsame : (T j).1 = ref) (hfin : (T j).2.2.2 = false) {x : Int32} (hn : narrow (ty0 j) (.int x) = .int x) (hfit : fits (ty0 j) (.int x) = true) (hl : j < fs.length)
    (hc1 : rt_cel cA ad k (fun b => if b = j then x else M k b) = .inr (ci, fs.set j (.int x))) (hdg : decode cc pc = .ok (.putfield index, 3))
    (kk : ∀ (M1 : pt_M) (H1 : Heap) (locs1 : List Loc), M1 = pt_st M k j x → va_P D pt_cl (rt_W cA ad M1) H1 → va_S A H0 H1 locs1 → W p l e R s m args below meth c H1 locs1 cells slots Q (F0 m (pc + 3) ls rest)) : W p l e R s m args below meth c H locs cells slots Q (F0 m pc ls (.int x :: .ref (ad k) :: rest)) := by
  refine va_put (D := D) (ci := ci) (ty := ty0 j) F.1.1 F.1.2.1 F.1.2.2.2.2 hin ty0 hty hnm F.1.2.2.2.1 F.2 hP (hD M) hS k (fs := fs) (by rw [rt_W_get hk, hc]) hcl j hj (F.1.2.2.2.2 _ hlink) (fun x h => by rw [← hsame]; exact h) hfin (hty j hj) hn hfit hl hdg (fun H1 locs1 g1 _ g3 => ?_)
  rw [rt_W_upd (M1 := pt_st M k j x) hk (by rw [pt_st_k]; exact hc1) (fun a h => pt_st_o h)] at g1
  exact kk _ H1 locs1 rfl g1 g3
theorem rt_iald (F : pt_F p m c cc nL s args own D cA) (hP : va_P D pt_cl (rt_W cA ad M) H) {n : Nat} (h8 : rt_kd k = 21 ∧ rt_len k = n) {i : Int32} (hin : vp_in i n) (hdg : decode cc pc = .ok (.iaload, 1))
    (kk : W p l e R s m args below meth c H locs cells slots Q (F0 m (pc + 1) ls (.int (M k i.toNatClampNeg) :: rest))) : W p l e R s m args below meth c H locs cells slots Q (F0 m pc ls (.int i :: .ref (ad k) :: rest)) :=
  va_iald (D := D) F.1.1 F.1.2.1 F.2 hP k 0 (by rw [rt_W_get (rt_l21 h8.1), rt_c21 _ h8]) rfl hin hdg kk
theorem rt_iast (F : pt_F p m c cc nL s args own D cA) (hP : va_P D pt_cl (rt_W cA ad M) H) (hD : ∀ M, va_D A (rt_W cA ad M)) (hS : va_S A H0 H locs) {n : Nat} (h8 : rt_kd k = 21 ∧ rt_len k = n) {i x : Int32} (hin : vp_in i n) (hdg : decode cc pc = .ok (.iastore, 1))
    (kk : ∀ (M1 : pt_M) (H1 : Heap) (locs1 : List Loc), M1 = pt_st M k i.toNatClampNeg x → va_P D pt_cl (rt_W cA ad M1) H1 → va_S A H0 H1 locs1 → W p l e R s m args below meth c H1 locs1 cells slots Q (F0 m (pc + 1) ls rest)) : W p l e R s m args below meth c H locs cells slots Q (F0 m pc ls (.int x :: .int i :: .ref (ad k) :: rest)) := by
  refine va_iast (D := D) F.1.1 F.1.2.1 F.2 hP (hD M) hS k 0 (by rw [rt_W_get (rt_l21 h8.1), rt_c21 _ h8]) rfl hin hdg (fun H1 locs1 g1 _ g3 => ?_)
  rw [rt_W_upd (M1 := pt_st M k i.toNatClampNeg x) (rt_l21 h8.1) (by rw [pt_st_k]; exact rt_c21 _ h8) (fun a h => pt_st_o h)] at g1
  exact kk _ H1 locs1 rfl g1 g3
theorem rt_getN (F : pt_F p m c cc nL s args own D cA) (hP : va_P D pt_cl (rt_W cA ad M) H) {ci : Nat} {fs : List Value} (hc : rt_cel cA ad k (M k) = .inr (ci, fs)) (hk : k < 13) {C ref : String} {T : u_T} {N index : Nat} (hin : ∀ w ∈ u_ws C T N, w ∈ lw_all) (hcl : pt_cl[ci]? = some (C, T, N)) (j : Nat) (hj : j < N) {host : String} (hlink : Cond.fieldLinkNest own index ref (T j).2.1 (T j).2.2.1 host ∈ lw_all) (hsame : (T j).1 = ref) {v : Value} (hv : fs[j]? = some v) (hdg : decode cc pc = .ok (.getfield index, 3))
    (kk : W p l e R s m args below meth c H locs cells slots Q (F0 m (pc + 3) ls (v :: rest))) : W p l e R s m args below meth c H locs cells slots Q (F0 m pc ls (.ref (ad k) :: rest)) :=
  va_getN (D := D) (ci := ci) F.1.1 F.1.2.1 F.1.2.2.2.2 hin F.1.2.2.2.1 F.2 hP k (by rw [rt_W_get hk, hc]) hcl j hj (F.1.2.2.2.2 _ hlink) (fun x h => by rw [← hsame]; exact h) hv hdg kk
theorem rt_getI (F : pt_F p m c cc nL s args own D cA) (hP : va_P D pt_cl (rt_W cA ad M) H) {ci : Nat} {fs : List Value} (hc : rt_cel cA ad k (M k) = .inr (ci, fs)) (hk : k < 13) {C ref : String} {T : u_T} {N index : Nat} (hin : ∀ w ∈ u_ws C T N, w ∈ lw_all) (hcl : pt_cl[ci]? = some (C, T, N)) (j : Nat) (hj : j < N) (hlink : Cond.fieldLink own index ref (T j).2.1 (T j).2.2.1 ∈ lw_all) (hsame : Cond.sameField ref (T j).1 (T j).2.1 (T j).2.2.1 ∈ lw_all) {v : Value} (hv : fs[j]? = some v) (hdg : decode cc pc = .ok (.getfield index, 3))
    (kk : W p l e R s m args below meth c H locs cells slots Q (F0 m (pc + 3) ls (v :: rest))) : W p l e R s m args below meth c H locs cells slots Q (F0 m pc ls (.ref (ad k) :: rest)) :=
  va_get (D := D) (ci := ci) F.1.1 F.1.2.1 F.1.2.2.2.2 hin F.1.2.2.2.1 F.2 hP k (by rw [rt_W_get hk, hc]) hcl j hj (F.1.2.2.2.2 _ hlink) (fun x h => u_same (F.1.2.2.2.2 _ hsame) x h) hv hdg kk
theorem rt_putI (F : pt_F p m c cc nL s args own D cA) (hP : va_P D pt_cl (rt_W cA ad M) H) (hD : ∀ M, va_D A (rt_W cA ad M)) (hS : va_S A H0 H locs) {ci : Nat} {fs : List Value} (hc : rt_cel cA ad k (M k) = .inr (ci, fs)) (hk : k < 13) {C ref : String} {T : u_T} {N index : Nat} (hin : ∀ w ∈ u_ws C T N, w ∈ lw_all) (ty0 : Nat → FieldType) (hty : ∀ k, k < N → parseFieldDescriptor (T k).2.2.1 = some (ty0 k)) (hnm : ∀ a, a < N → ∀ b, b < N → a ≠ b → (T a).2.1 ≠ (T b).2.1) (hcl : pt_cl[ci]? = some (C, T, N)) (j : Nat) (hj : j < N) (hlink : Cond.fieldLink own index ref (T j).2.1 (T j).2.2.1 ∈ lw_all) (hsame : Cond.sameField ref (T j).1 (T j).2.1 (T j).2.2.1 ∈ lw_all) (hfin : (T j).2.2.2 = false) {x : Int32} (hn : narrow (ty0 j) (.int x) = .int x) (hfit : fits (ty0 j) (.int x) = true) (hl : j < fs.length)
    (hc1 : rt_cel cA ad k (fun b => if b = j then x else M k b) = .inr (ci, fs.set j (.int x))) (hdg : decode cc pc = .ok (.putfield index, 3))
    (kk : ∀ (M1 : pt_M) (H1 : Heap) (locs1 : List Loc), M1 = pt_st M k j x → va_P D pt_cl (rt_W cA ad M1) H1 → va_S A H0 H1 locs1 → W p l e R s m args below meth c H1 locs1 cells slots Q (F0 m (pc + 3) ls rest)) : W p l e R s m args below meth c H locs cells slots Q (F0 m pc ls (.int x :: .ref (ad k) :: rest)) := by
  refine va_put (D := D) (ci := ci) (ty := ty0 j) F.1.1 F.1.2.1 F.1.2.2.2.2 hin ty0 hty hnm F.1.2.2.2.1 F.2 hP (hD M) hS k (fs := fs) (by rw [rt_W_get hk, hc]) hcl j hj (F.1.2.2.2.2 _ hlink) (fun x h => u_same (F.1.2.2.2.2 _ hsame) x h) hfin (hty j hj) hn hfit hl hdg (fun H1 locs1 g1 _ g3 => ?_)
  rw [rt_W_upd (M1 := pt_st M k j x) hk (by rw [pt_st_k]; exact hc1) (fun a h => pt_st_o h)] at g1
  exact kk _ H1 locs1 rfl g1 g3
/-- a cast of the root's State -/
theorem rt_cast4 (F : pt_F p m c cc nL s args own D cA) (hP : va_P D pt_cl (rt_W cA ad M) H) {index : Nat} (hlink : Cond.classLink own index RX10 ∈ lw_all) (hdg : decode cc pc = .ok (.checkcast index, 3))
    (kk : W p l e R s m args below meth c H locs cells slots Q (F0 m (pc + 3) ls (.ref (ad 4) :: rest))) : W p l e R s m args below meth c H locs cells slots Q (F0 m pc ls (.ref (ad 4) :: rest)) :=
  va_castS F.1.1 F.1.2.1 F.1.2.2.2.1 (F.1.2.2.2.2 _ hlink) (F.2.1 10 (RX10, TX10, 5) rfl).2 (va_recv F.2 hP (ci := 10) (q0 := 4) rfl (by rw [rt_W_get (by decide), rt_c10 _ rt_k4])) hdg kk
/-- a place of NOTHING -/
theorem rt_iald13 (F : pt_F p m c cc nL s args own D cA) (hN : rt_Zs (ad 13) (ad 14) A s s.heap) (hS : va_S A s.heap H locs) {i : Int32} (hin : vp_in i 3) (hdg : decode cc pc = .ok (.iaload, 1))
    (kk : W p l e R s m args below meth c H locs cells slots Q (F0 m (pc + 1) ls (.int 0 :: rest))) : W p l e R s m args below meth c H locs cells slots Q (F0 m pc ls (.int i :: .ref (ad 13) :: rest)) :=
  va_ti F.1.1 F.1.2.1 hN.1 hS hin rfl hdg kk
/-- the first place of states -/
theorem rt_ald0 (F : pt_F p m c cc nL s args own D cA) (hP : va_P D pt_cl (rt_W cA ad M) H) {i : Int32} (hi : i = 0) (hdg : decode cc pc = .ok (.aaload, 1))
    (kk : W p l e R s m args below meth c H locs cells slots Q (F0 m (pc + 1) ls (.ref (ad 4) :: rest))) : W p l e R s m args below meth c H locs cells slots Q (F0 m pc ls (.int i :: .ref (ad 3) :: rest)) := by
  subst hi
  exact va_aldq (D := D) (f := fun i => if i = 0 then some (ad 4) else none) F.1.1 F.1.2.1 F.2 hP 3 4 (by rw [rt_W_get (by decide), rt_c3]) rfl (show vp_in 0 10 from by unfold vp_in; decide) hdg kk
theorem rt_runV (F : pt_F p m c cc nL s args own D cA) (hP : va_P D pt_cl (rt_W cA ad M) H) (hN : rt_Zs (ad 13) (ad 14) A s s.heap) (hS : va_S A s.heap H locs) (hA : ∀ q, rt_fr ad H.size q → A q) {ci : Nat} {fs As : List Value} (hc : rt_cel cA ad k (M k) = .inr (ci, fs)) (hk : k < 13) {C : String} {T : u_T} {N : Nat} (hcl : pt_cl[ci]? = some (C, T, N)) {y : MethodName} {bytes : ByteArray} {maxL index n : Nat} {ret : Option FieldType} {rm : Room} {Qc : Array Value → State → Outcome → State → Prop} {free : Addr → Prop}
    (hM : Met l y (Cond.code y bytes maxL ret :: lw_all) rm (va_Pc (.ref (ad k) :: As) (rt_P D cA ad H.size M)) Qc 0 0 free) (h1 : Cond.code y bytes maxL ret ∈ lw_all) (h2 : Cond.methodLink own index y ∈ lw_all) (h5 : Cond.initialized y.cls ∈ lw_all) (h3 : Cond.instanceMethod y ∈ lw_all) (h4 : Cond.selects C y y ∈ lw_all) (hd : y.cls ≠ "java/lang/invoke/MethodHandle" ∧ y.cls ≠ "java/lang/invoke/VarHandle" ∧ (parseMethodDescriptor y.desc).map (fun d => d.parameters.length) = some n) (hrm : rm.cells = 0 ∧ rm.slots = 0 ∧ rm.frames + 1 ≤ R.frames ∧ 8 + (maxL + 11) + rm.locals ≤ R.locals)
    (hn : As.length = n) (hsz : ls.size = nL) (hst : st = As.reverse ++ .ref (ad k) :: rest) (hW : (rest.map fun v => v.category).sum ≤ 8) (hdg : decode cc pc = .ok (.invokevirtual index, 3)) (hcs : cells + 0 ≤ R.cells ∧ slots + 0 ≤ R.slots) :
    va_Run p l e R s m args below meth c H locs cells slots 0 0 (F0 m pc ls st) rest (Qc (Value.ref (ad k) :: As).toArray) free :=
  va_runV (C := C) (b := ad k) (As := As) (rest := rest) F.1 hM ⟨pt_B0 F h1 h2 h5 hd hrm, F.1.2.2.2.2 _ h3, F.1.2.2.2.2 _ h4⟩ ⟨rt_blind, va_recv F.2 hP (ci := ci) (q0 := k) hcl (by rw [rt_W_get hk, hc]), rt_pre F hP hN hS hA⟩ rfl hn hsz hst (lv_room hW) hdg hcs
theorem rt_runS (F : pt_F p m c cc nL s args own D cA) (hP : va_P D pt_cl (rt_W cA ad M) H) (hN : rt_Zs (ad 13) (ad 14) A s s.heap) (hS : va_S A s.heap H locs) (hA : ∀ q, rt_fr ad H.size q → A q) {As : List Value} {y : MethodName} {bytes : ByteArray} {maxL index n : Nat} {ret : Option FieldType} {rm : Room} {Qc : Array Value → State → Outcome → State → Prop} {free : Addr → Prop}
    (hM : Met l y (Cond.code y bytes maxL ret :: lw_all) rm (va_Pc As (rt_P D cA ad H.size M)) Qc 0 0 free) (h1 : Cond.code y bytes maxL ret ∈ lw_all) (h2 : Cond.methodLink own index y ∈ lw_all) (h5 : Cond.initialized y.cls ∈ lw_all) (h3 : Cond.static y ∈ lw_all) (hd : y.cls ≠ "java/lang/invoke/MethodHandle" ∧ y.cls ≠ "java/lang/invoke/VarHandle" ∧ (parseMethodDescriptor y.desc).map (fun d => d.parameters.length) = some n) (hrm : rm.cells = 0 ∧ rm.slots = 0 ∧ rm.frames + 1 ≤ R.frames ∧ 8 + (maxL + 11) + rm.locals ≤ R.locals)
    (hn : As.length = n) (hsz : ls.size = nL) (hst : st = As.reverse ++ rest) (hW : (rest.map fun v => v.category).sum ≤ 8) (hdg : decode cc pc = .ok (.invokestatic index, 3)) (hcs : cells + 0 ≤ R.cells ∧ slots + 0 ≤ R.slots) :
    va_Run p l e R s m args below meth c H locs cells slots 0 0 (F0 m pc ls st) rest (Qc As.toArray) free :=
  va_runS (As := As) (rest := rest) F.1 hM ⟨pt_B0 F h1 h2 h5 hd hrm, F.1.2.2.2.2 _ h3⟩ ⟨rt_blind, rt_pre F hP hN hS hA⟩ rfl hn hsz hst (lv_room hW) hdg hcs
theorem rt_runSN (F : pt_F p m c cc nL s args own D cA) (hP : va_P D pt_cl (rt_W cA ad M) H) (hN : rt_Zs (ad 13) (ad 14) A s s.heap) (hS : va_S A s.heap H locs) (hA : ∀ q, rt_fr ad H.size q → A q) {As : List Value} {y : MethodName} {bytes : ByteArray} {maxL index n : Nat} {ret : Option FieldType} {rm : Room} {Qc : Array Value → State → Outcome → State → Prop} {free : Addr → Prop} {host : String}
    (hM : Met l y (Cond.code y bytes maxL ret :: lw_all) rm (va_Pc As (rt_P D cA ad H.size M)) Qc 0 0 free) (h1 : Cond.code y bytes maxL ret ∈ lw_all) (h2 : Cond.methodLinkNest own index y host ∈ lw_all) (h5 : Cond.initialized y.cls ∈ lw_all) (h3 : Cond.static y ∈ lw_all) (hd : y.cls ≠ "java/lang/invoke/MethodHandle" ∧ y.cls ≠ "java/lang/invoke/VarHandle" ∧ (parseMethodDescriptor y.desc).map (fun d => d.parameters.length) = some n) (hrm : rm.cells = 0 ∧ rm.slots = 0 ∧ rm.frames + 1 ≤ R.frames ∧ 8 + (maxL + 11) + rm.locals ≤ R.locals)
    (hn : As.length = n) (hsz : ls.size = nL) (hst : st = As.reverse ++ rest) (hW : (rest.map fun v => v.category).sum ≤ 8) (hdg : decode cc pc = .ok (.invokestatic index, 3)) (hcs : cells + 0 ≤ R.cells ∧ slots + 0 ≤ R.slots) :
    va_Run p l e R s m args below meth c H locs cells slots 0 0 (F0 m pc ls st) rest (Qc As.toArray) free := by
  have hts := F.1.2.2.2.2
  refine va_runSN (As := As) (rest := rest) F.1 hM ⟨⟨⟨hrm.1, hrm.2.1, hrm.2.2.1, hrm.2.2.2, ?_, List.mem_cons_self⟩, hts _ h1, hts _ h5, ⟨hd.1, hd.2.1⟩, fun sig h => ?_, hts _ h2⟩, hts _ h3, trivial⟩ ⟨rt_blind, rt_pre F hP hN hS hA⟩ rfl hn hsz hst (lv_room hW) hdg hcs
  · intro w hw a' U hW
    rcases List.mem_cons.mp hw with rfl | hw
    · exact pt_pay hts _ h1 a' U hW
    · exact pt_pay hts _ hw a' U hW
  · have h6 := hd.2.2
    rw [h] at h6
    exact (Option.some.inj h6).symm
theorem rt_frA (hS : va_S A H0 H locs) (hA : ∀ q, rt_fr ad H0.size q → A q) : (∀ q, q < H.size → rt_fr ad H.size q → A q) ∧ (∀ q, rt_fr ad H.size q → A q) := by
  have h2 : ∀ q, rt_fr ad H.size q → A q := by
    intro q h
    rcases h with h | h
    · exact hA q (Or.inl h)
    · exact hA q (Or.inr (Nat.le_trans hS.1 h))
  exact ⟨fun q _ h => h2 q h, h2⟩
variable {a : Array Value}
theorem rt_calli {Qi : Int32 → pt_M → Prop} (hr : va_Run p l e R s m args below meth c H locs cells slots 0 0 (F0 m pc ls st) rest (va_Qi Qi (rt_B D cA ad) (rt_fr ad H.size) a) (rt_fr ad H.size)) (hS : va_S A H0 H locs) (hA : ∀ q, rt_fr ad H0.size q → A q)
    (kk : ∀ (r : Int32) (M1 : pt_M) (H1 : Heap) (locs1 : List Loc), Qi r M1 → va_P D pt_cl (rt_W cA ad M1) H1 → va_S A H0 H1 locs1 → H.size ≤ H1.size → (∀ q : Nat, q < H.size → ¬ rt_fr ad H.size q → H1[q]? = H[q]?) → W p l e R s m args below meth c H1 locs1 cells slots Q (F0 m (pc + 3) ls (.int r :: rest))) : W p l e R s m args below meth c H locs cells slots Q (F0 m pc ls st) :=
  va_calli hr hS (rt_frA hS hA).1 (rt_frA hS hA).2 (fun r M1 t H1 locs1 ht _ hq hB hz ho hS1 => kk r M1 H1 locs1 hq (by rw [← ht]; exact hB) hS1 hz ho)
theorem rt_calll {Qi : Int64 → pt_M → Prop} (hr : va_Run p l e R s m args below meth c H locs cells slots 0 0 (F0 m pc ls st) rest (va_Ql Qi (rt_B D cA ad) (rt_fr ad H.size) a) (rt_fr ad H.size)) (hS : va_S A H0 H locs) (hA : ∀ q, rt_fr ad H0.size q → A q)
    (kk : ∀ (r : Int64) (M1 : pt_M) (H1 : Heap) (locs1 : List Loc), Qi r M1 → va_P D pt_cl (rt_W cA ad M1) H1 → va_S A H0 H1 locs1 → H.size ≤ H1.size → (∀ q : Nat, q < H.size → ¬ rt_fr ad H.size q → H1[q]? = H[q]?) → W p l e R s m args below meth c H1 locs1 cells slots Q (F0 m (pc + 3) ls (.long r :: rest))) : W p l e R s m args below meth c H locs cells slots Q (F0 m pc ls st) :=
  va_calll hr hS (rt_frA hS hA).1 (rt_frA hS hA).2 (fun r M1 t H1 locs1 ht _ hq hB hz ho hS1 => kk r M1 H1 locs1 hq (by rw [← ht]; exact hB) hS1 hz ho)
theorem rt_calld {Qi : UInt64 → pt_M → Prop} (hr : va_Run p l e R s m args below meth c H locs cells slots 0 0 (F0 m pc ls st) rest (va_Qd Qi (rt_B D cA ad) (rt_fr ad H.size) a) (rt_fr ad H.size)) (hS : va_S A H0 H locs) (hA : ∀ q, rt_fr ad H0.size q → A q)
    (kk : ∀ (r : UInt64) (M1 : pt_M) (H1 : Heap) (locs1 : List Loc), Qi r M1 → va_P D pt_cl (rt_W cA ad M1) H1 → va_S A H0 H1 locs1 → H.size ≤ H1.size → (∀ q : Nat, q < H.size → ¬ rt_fr ad H.size q → H1[q]? = H[q]?) → W p l e R s m args below meth c H1 locs1 cells slots Q (F0 m (pc + 3) ls (.double r :: rest))) : W p l e R s m args below meth c H locs cells slots Q (F0 m pc ls st) :=
  va_calld hr hS (rt_frA hS hA).1 (rt_frA hS hA).2 (fun r M1 t H1 locs1 ht _ hq hB hz ho hS1 => kk r M1 H1 locs1 hq (by rw [← ht]; exact hB) hS1 hz ho)
theorem rt_callv {Qi : pt_M → Prop} (hr : va_Run p l e R s m args below meth c H locs cells slots 0 0 (F0 m pc ls st) rest (va_Qv Qi (rt_B D cA ad) (rt_fr ad H.size) a) (rt_fr ad H.size)) (hS : va_S A H0 H locs) (hA : ∀ q, rt_fr ad H0.size q → A q)
    (kk : ∀ (M1 : pt_M) (H1 : Heap) (locs1 : List Loc), Qi M1 → va_P D pt_cl (rt_W cA ad M1) H1 → va_S A H0 H1 locs1 → H.size ≤ H1.size → (∀ q : Nat, q < H.size → ¬ rt_fr ad H.size q → H1[q]? = H[q]?) → W p l e R s m args below meth c H1 locs1 cells slots Q (F0 m (pc + 3) ls rest)) : W p l e R s m args below meth c H locs cells slots Q (F0 m pc ls st) :=
  va_callv hr hS (rt_frA hS hA).1 (rt_frA hS hA).2 (fun M1 t H1 locs1 ht _ hq hB hz ho hS1 => kk M1 H1 locs1 hq (by rw [← ht]; exact hB) hS1 hz ho)
/-- a call that answers the root's State -/
def rt_BR (D : va_G) (cA : Nat → ClassId) (ad : Nat → Nat) : pt_M → Nat → State → Prop := fun M q t => q = ad 4 ∧ rt_B D cA ad M t
theorem rt_call4 {Qi : pt_M → Prop} (hr : va_Run p l e R s m args below meth c H locs cells slots 0 0 (F0 m pc ls st) rest (va_Qr Qi (rt_BR D cA ad) (rt_fr ad H.size) a) (rt_fr ad H.size)) (hS : va_S A H0 H locs) (hA : ∀ q, rt_fr ad H0.size q → A q)
    (kk : ∀ (M1 : pt_M) (H1 : Heap) (locs1 : List Loc), Qi M1 → va_P D pt_cl (rt_W cA ad M1) H1 → va_S A H0 H1 locs1 → H.size ≤ H1.size → (∀ q : Nat, q < H.size → ¬ rt_fr ad H.size q → H1[q]? = H[q]?) → W p l e R s m args below meth c H1 locs1 cells slots Q (F0 m (pc + 3) ls (.ref (ad 4) :: rest))) : W p l e R s m args below meth c H locs cells slots Q (F0 m pc ls st) :=
  va_callr hr hS (rt_frA hS hA).1 (rt_frA hS hA).2 (fun M1 ra t H1 locs1 ht _ hq hB hz ho hS1 => by
    obtain ⟨rfl, hB⟩ := hB
    exact kk M1 H1 locs1 hq (by rw [← ht]; exact hB) hS1 hz ho)
/-- a pure method of the JDK, or a static helper, whatever the world -/
theorem rt_callp {Qi : Int32 → Prop} {a : Array Value} (hr : va_Run p l e R s m args below meth c H locs cells slots 0 0 (F0 m pc ls st) rest (va_Qi (fun r (_ : Unit) => Qi r) (fun _ _ => True) (fun _ => False) a) (fun _ => False)) (hP : va_P D pt_cl (rt_W cA ad M) H) (hS : va_S A H0 H locs)
    (kk : ∀ (r : Int32) (H1 : Heap) (locs1 : List Loc), Qi r → va_P D pt_cl (rt_W cA ad M) H1 → va_S A H0 H1 locs1 → W p l e R s m args below meth c H1 locs1 cells slots Q (F0 m (pc + 3) ls (.int r :: rest))) : W p l e R s m args below meth c H locs cells slots Q (F0 m pc ls st) :=
  va_calli hr hS (fun _ _ h => h.elim) (fun _ h => h.elim) (fun r u t H1 locs1 ht _ hq _ hz ho hS1 => kk r H1 locs1 hq (fun k q hk => (hP k q hk).kept (ho q.1 (hP k q hk).lt id)) hS1)
end RTR
set_option maxRecDepth 100000 in
theorem inX8 : ∀ w ∈ u_ws RX8 TX8 2, w ∈ lw_all := by decide +kernel
set_option maxRecDepth 100000 in
theorem inX9 : ∀ w ∈ u_ws RX9 TX9 11, w ∈ lw_all := by decide +kernel
set_option maxRecDepth 100000 in
theorem inX10 : ∀ w ∈ u_ws RX10 TX10 5, w ∈ lw_all := by decide +kernel
set_option maxRecDepth 100000 in
theorem inX11 : ∀ w ∈ u_ws RX11 TX11 6, w ∈ lw_all := by decide +kernel
set_option maxRecDepth 100000 in
theorem inX12 : ∀ w ∈ u_ws RX12 TX12 5, w ∈ lw_all := by decide +kernel
set_option maxRecDepth 100000 in
theorem inX13 : ∀ w ∈ u_ws RJx4a65c TJx4a65c 3, w ∈ lw_all := by decide +kernel
