-- begun with the kit's skeleton, its middle (given for pasting)
/-! THE CLAIM OUT OF ONE WALK OF THE LAW'S BODY. Your part is whole_start (and what it stands on); all else here is the same for every law, but numbers. -/
def R_law : String := "PuppetTheatreLaw"
def lw_P (b : Addr) (xs : List Int32) (args : Array Value) (s : State) : Prop := args = #[.ref b] ∧ s.IntsAt b xs ∧ xs.length ≤ 6 ∧ (Jvm.Cond.and given_1 narrow_1).before args s = true
/-- what a walk over the start with the record d0 says of its end, said of the start itself -/
theorem lw_closed {s t : State} {o : Outcome} {d0 : Drawn} {L : List Loc} {k n : Nat} (hd0 : s.drawn.sameBut d0 lw_cs) (hv : ∃ v, o = .returned v) (hW : (s.setDrawn d0).WarmedH t.vm) (hs : (s.setDrawn d0).sameButNew ({ t with vm := s.vm } : State) L k n) : State.butDraws s t lw_cs (fun t1 => Framed s o t1 L k n) := by
  have h2 : t.drawn = d0 := congrArg State.drawn hs.1
  refine ⟨⟨hv, hW, State.sameButNew.setDrawn hs s.drawn⟩, ?_, by decide⟩
  rw [h2]
  exact hd0
def lw_Q (_ : Array Value) (s : State) (o : Outcome) (t : State) : Prop := o = .returned (some (.int 1)) ∧ State.butDraws s t lw_cs (fun t1 => Framed s o t1 [] 600002 7302232)
def lw_Z (below : List Frame) (a : Array Value) (s : State) : State → Prop := fun t => ∃ o, t.status = .running ∧ Ended t below o ∧ lw_Q a s o t
/-- the law's own end, with 1 on the stack, nothing written that was there before, its room as the claim has it; d0: the record of draws at this point (at the entry s.drawn: begin with 'refine W.base ?_' and 'have hd0 := Drawn.sameBut.refl s.drawn lw_cs') -/
theorem lw_ret {p : Program} {l : Launch} {e : Env} {s : State} {m : MethodId} {below : List Frame} {meth : Method} {c : Code} {b : Nat} {d0 : Drawn} (hd0 : s.drawn.sameBut d0 lw_cs) (hx : p.tables.exec = Jvm.exec) (hb : c.code = code) (hr : meth.sig.returnType = ret) (hlocks : meth.locks = false) {pc : Nat} {H : Heap} {ls : Array Slot} (hdg : decode code pc = .ok (.ireturn, 1)) : W p l e room_1 (s.setDrawn d0) m #[Value.ref b] below meth c H [] 600002 7302232 (lw_Z below #[Value.ref b] s) (F0 m pc ls [.int 1]) := by
  intro T hT X
  obtain ⟨fs, hret, hrun, hended, hW, hframe⟩ := X.leave (v := some (.int 1)) (hlocks := hlocks) (fun h => by rw [hr] at h; cases h)
  have hmeth' : T.vm.method? m = some meth := X.method'
  refine ⟨T.setFrames fs, ?_, .returned (some (.int 1)), hrun, hended, rfl, lw_closed hd0 ⟨_, rfl⟩ hW hframe⟩
  jvm_step X.here [X.here.top, hx, hb, hdg, hmeth', hr, ret, narrow_b1]
  (try refine ⟨rfl, ?_⟩); (try refine ⟨rfl, ?_⟩)
  first | (intro acts; rw [hret _ acts rfl rfl rfl]) | rw [hret _ _ rfl rfl rfl]
  exact Steps.refl _
/-- what holds at the law's entry: the machine, the code, the tables' words (any of lw_tbl by 'hts w (by decide +kernel)'), the script of L ints xs at the cell b, what the Statement gives of the start (any of its parts by flat_of_before) -/
def lw_At (p : Program) (s : State) (m : MethodId) (meth : Method) (c : Code) (b L : Nat) (xs : Nat → Int32) : Prop :=
  p.tables.exec = Jvm.exec ∧ c.code = code ∧ meth.sig.returnType = ret ∧ c.maxLocals = 9 ∧ s.vm.findClass R_law = some m.cls ∧ (∀ w ∈ lw_tbl, w.before #[Value.ref b] s = true) ∧ va_X b L xs s s.heap ∧ b < s.heap.size ∧ meth.locks = false ∧ (Jvm.Cond.and given_1 narrow_1).before #[Value.ref b] s = true
set_option maxRecDepth 100000 in
theorem kw_71 : (Jvm.Cond.initialized "java/lang/Throwable") ∈ lw_all := pt_all (List.mem_of_getElem? (i := 71) rfl) (by decide +kernel)
set_option maxRecDepth 100000 in
theorem kw_83 : (Jvm.Cond.classLink "PuppetTheatreLaw" (8 : Nat) "PuppetTheatre") ∈ lw_all := pt_all (List.mem_of_getElem? (i := 83) rfl) (by decide +kernel)
set_option maxRecDepth 100000 in
theorem kw_84 : (Jvm.Cond.instantiable "PuppetTheatre" (5 : Nat)) ∈ lw_all := pt_all (List.mem_of_getElem? (i := 84) rfl) (by decide +kernel)
set_option maxRecDepth 100000 in
theorem kw_85 : (Jvm.Cond.methodLink "PuppetTheatreLaw" (84 : Nat) ({ cls := "PuppetTheatre", name := "<init>", desc := "()V" } : Jvm.MethodName)) ∈ lw_all := pt_all (List.mem_of_getElem? (i := 85) rfl) (by decide +kernel)
set_option maxRecDepth 100000 in
theorem kw_86 : (Jvm.Cond.instanceMethod ({ cls := "PuppetTheatre", name := "<init>", desc := "()V" } : Jvm.MethodName)) ∈ lw_all := pt_all (List.mem_of_getElem? (i := 86) rfl) (by decide +kernel)
set_option maxRecDepth 100000 in
theorem kw_946 : (Jvm.Cond.classLink "PuppetTheatreLaw" (85 : Nat) "PuppetTheatreModel") ∈ lw_all := pt_all (List.mem_of_getElem? (i := 946) rfl) (by decide +kernel)
set_option maxRecDepth 100000 in
theorem kw_947 : (Jvm.Cond.instantiable "PuppetTheatreModel" (5 : Nat)) ∈ lw_all := pt_all (List.mem_of_getElem? (i := 947) rfl) (by decide +kernel)
set_option maxRecDepth 100000 in
theorem kw_948 : (Jvm.Cond.methodLink "PuppetTheatreLaw" (87 : Nat) ({ cls := "PuppetTheatreModel", name := "<init>", desc := "()V" } : Jvm.MethodName)) ∈ lw_all := pt_all (List.mem_of_getElem? (i := 948) rfl) (by decide +kernel)
set_option maxRecDepth 100000 in
theorem kw_949 : (Jvm.Cond.instanceMethod ({ cls := "PuppetTheatreModel", name := "<init>", desc := "()V" } : Jvm.MethodName)) ∈ lw_all := pt_all (List.mem_of_getElem? (i := 949) rfl) (by decide +kernel)
set_option maxRecDepth 100000 in
theorem kw_1640 : (Jvm.Cond.arrayClass Jvm.ClassFile.FieldType.long) ∈ lw_all := pt_all (List.mem_of_getElem? (i := 1640) rfl) (by decide +kernel)
/-! THE LAW'S START: rows -/
section PZS
variable {p : Program} {l : Launch} {e : Env} {R : Room} {s : State} {m : MethodId} {args : Array Value} {below : List Frame} {meth : Method} {c : Code} {H : Heap} {locs : List Loc} {cells slots : Nat} {Q : State → Prop}
variable {cc : ByteArray} {pc nL : Nat} {ls : Array Slot} {rest st : List Value} {D : va_G} {A : Nat → Prop} {cA : Nat → ClassId} {B Y : va_W} {H0 : Heap} {own : String}
theorem pz_jnew (F : pt_F p m c cc nL s args own D cA) (hP : va_P D pt_cl (B ++ Y) H) (hD : va_D A (B ++ Y)) (hS : va_S A H0 H locs) (hA : ∀ q, H0.size ≤ q → A q) (harr : Cond.arrayClass .long ∈ lw_all) {n : Int32} {N : Nat} (hn : ¬ n < 0) (hN : n.toNatClampNeg = N) (hb : N ≤ 64) (hcells : cells + 1 ≤ R.cells) (hslots : slots + N ≤ R.slots) (hdg : decode cc pc = .ok (.newarray .long, 2))
    (kk : ∀ (q : Nat) (H1 : Heap), va_P D pt_cl (B ++ (Y ++ [(q, .inl (cA 6, N, .inr (.inl (fun _ => 0))))])) H1 → va_D A (B ++ (Y ++ [(q, .inl (cA 6, N, .inr (.inl (fun _ => 0))))])) → va_S A H0 H1 locs →
      W p l e R s m args below meth c H1 locs (cells + 1) (slots + N) Q (F0 m (pc + 2) ls (.ref q :: rest))) : W p l e R s m args below meth c H locs cells slots Q (F0 m pc ls (.int n :: rest)) := by
  refine va_newa (D := D) (ty := .long) (atype := .long) (a0 := (N, .inr (.inl (fun _ => 0)))) F.1.1 F.1.2.1 (F.1.2.2.2.2 _ harr) rfl F.2 hP hD hS hA (fun _ => rfl) hn hN (by show N * 8 ≤ 536870912; omega) hcells hslots hdg (fun q cB H1 g1 g2 g3 g4 => ?_)
  have e1 := (g1.2 7 (cB, .long) rfl).2
  have e2 := (F.2.2 6 (cA 6, .long) rfl).2
  have e : cB = cA 6 := Option.some.inj (e1.symm.trans e2)
  subst e
  rw [List.append_assoc] at g2 g3
  exact kk q H1 g2 g3 g4
theorem pz_kcall {S : Type} {post : S → Prop} {W1 : S → va_W} {a : Array Value} {x : Nat × va_E} {mc ms : Nat} (hr : va_Run p l e R s m args below meth c H locs cells slots mc ms (F0 m pc ls st) rest (va_Qv post (sx_B D [x] H.size W1) (va_A [x] H.size) a) (va_A [x] H.size)) (hP : va_P D pt_cl (B ++ [x]) H) (hD : va_D A (B ++ [x])) (hS : va_S A H0 H locs) (hA : ∀ q, H0.size ≤ q → A q)
    (kk : ∀ (u : S) (H1 : Heap) (locs1 : List Loc), post u → va_P D pt_cl (B ++ W1 u) H1 → va_D A (B ++ W1 u) → va_S A H0 H1 locs1 → W p l e R s m args below meth c H1 locs1 (cells + mc) (slots + ms) Q (F0 m (pc + 3) ls rest)) : W p l e R s m args below meth c H locs cells slots Q (F0 m pc ls st) := by
  have hx : A x.1 := (pt_xD.mp hD).2.1.2 0 x rfl
  have hA1 : ∀ q, H.size ≤ q → A q := fun q h => hA q (Nat.le_trans hS.1 h)
  have hKA : ∀ q, va_A [x] H.size q → q = x.1 ∨ H.size ≤ q := fun q h => by
    rcases h with ⟨k, e, h⟩ | h
    · match k, h with
      | 0, h => cases h; exact Or.inl rfl
      | k + 1, h => simp at h
    · exact Or.inr h
  have hA2 : ∀ q, va_A [x] H.size q → A q := fun q h => by
    rcases hKA q h with h | h
    · rw [h]; exact hx
    · exact hA1 q h
  refine va_callv hr hS (fun q _ h => hA2 q h) hA2 (fun u t H1 locs1 ht _ hq hB hz ho hS1 => ?_)
  unfold sx_B at hB
  rw [ht] at hB
  obtain ⟨g1, g2⟩ := pt_ctW hP hD hB.1 (hB.2.weaken (fun k q _ h => hKA q.1 h)) (fun q h1 h2 => ho q h1 (fun z => h2 (hKA q z))) hA1
  exact kk u H1 locs1 hq g1 g2 hS1
end PZS
theorem pz_33 {x : Int32} (h : ¬ (x.toInt < 0 ∨ 33 < x.toInt)) : ∃ n : Nat, n ≤ 33 ∧ x = Int32.ofNat n := by
  refine ⟨x.toInt.toNat, by omega, ?_⟩
  apply Int32.toInt_inj.mp
  rw [Int32.toInt_ofNat_of_lt (by omega)]
  omega
theorem pz_Kmk {cA : Nat → ClassId} {ad rd : Nat → Nat} {ao n : Nat} {M M2 : pt_M} {e : va_E} (hI : pt_I ad) (hD : va_D (fun q : Nat => n ≤ q) ((pt_W cA ad M ++ rt_W cA rd M2) ++ [(ao, e)])) : pz_K ad rd ao n := by
  have lW : (pt_W cA ad M).length = 387 := by simp [pt_W]
  have lR : (rt_W cA rd M2).length = 13 := by simp [rt_W]
  have g1 : ∀ k, k < 387 → ((pt_W cA ad M ++ rt_W cA rd M2) ++ [(ao, e)])[k]? = some (ad k, pt_cel cA ad k (M k)) := fun k hk => by
    rw [List.getElem?_append_left (by rw [List.length_append]; omega), List.getElem?_append_left (by omega)]
    exact pt_W_get hk
  have g2 : ∀ k, k < 13 → ((pt_W cA ad M ++ rt_W cA rd M2) ++ [(ao, e)])[387 + k]? = some (rd k, rt_cel cA rd k (M2 k)) := fun k hk => by
    rw [List.getElem?_append_left (by rw [List.length_append]; omega), List.getElem?_append_right (by omega), lW, Nat.add_sub_cancel_left]
    exact rt_W_get hk
  have g3 : ((pt_W cA ad M ++ rt_W cA rd M2) ++ [(ao, e)])[400]? = some (ao, e) := by
    rw [List.getElem?_append_right (by rw [List.length_append]; omega), List.length_append, lW, lR]
    rfl
  refine ⟨hI, fun i j hi hj h => ?_, fun k j hk hj h => ?_, fun k hk h => ?_, fun j hj h => ?_, fun k hk => hD.2 _ _ (g1 k hk), fun j hj => hD.2 _ _ (g2 j hj), hD.2 _ _ g3⟩
  · have := hD.1 _ _ _ _ (g2 i hi) (g2 j hj) h
    omega
  · have := hD.1 _ _ _ _ (g1 k hk) (g2 j hj) h
    omega
  · have := hD.1 _ _ _ _ (g1 k hk) g3 h
    omega
  · have := hD.1 _ _ _ _ (g2 j hj) g3 h
    omega
