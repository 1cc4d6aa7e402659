/-! ROWS FOR THE LAW'S OWN METHODS: the world is B (the engine's objects, or nothing) and behind it a written list Y of cells: int arrays, and arrays of int arrays (class cA 4). -/
def pt_AA (cA : Nat → ClassId) (U : State) : Prop := ArrOfT U (cA 4) (.array .int) ∧ U.vm.findClass ("[" ++ (FieldType.array .int).toString) = some (cA 4) ∧ ∃ kA : Class, U.vm.classes[cA 4]? = some kA ∧ kA.kind = .array (cA 0) (.array .int)
theorem pt_AA.moved {cA : Nat → ClassId} {u U : State} (hvm : u.vm.Alike U.vm) (h : pt_AA cA u) : pt_AA cA U := by
  obtain ⟨h1, h2, kA, h3, h4⟩ := h
  obtain ⟨k', hk', he⟩ := hvm.2.2 _ _ h3
  exact ⟨arrOfT_moved hvm h1, by rw [hvm.findClass]; exact h2, k', hk', by rw [he]; exact h4⟩
theorem pt_xat {B Y : va_W} {i : Nat} {q : Nat × va_E} (h : Y[i]? = some q) : (B ++ Y)[B.length + i]? = some q := by
  rw [List.getElem?_append_right (by omega), Nat.add_sub_cancel_left]
  exact h
theorem pt_xset {B Y : va_W} {i : Nat} (q : Nat × va_E) : (B ++ Y).set (B.length + i) q = B ++ Y.set i q := by
  rw [List.set_append_right _ _ (by omega), Nat.add_sub_cancel_left]
theorem pt_xP {D : va_G} {cl : List vw_C} {B Y : va_W} {H : Heap} : va_P D cl (B ++ Y) H ↔ va_P D cl B H ∧ va_P D cl Y H := by
  constructor
  · intro h
    refine ⟨fun k q hk => h k q ?_, fun k q hk => h (B.length + k) q (pt_xat hk)⟩
    rw [List.getElem?_append_left (List.getElem?_eq_some_iff.mp hk).1]
    exact hk
  · intro h
    exact h.1.app h.2
theorem pt_xD {A : Nat → Prop} {B Y : va_W} : va_D A (B ++ Y) ↔ va_D A B ∧ va_D A Y ∧ ∀ (i j : Nat) (p q : Nat × va_E), B[i]? = some p → Y[j]? = some q → p.1 ≠ q.1 := by
  constructor
  · intro h
    have hB : ∀ {i : Nat} {p : Nat × va_E}, B[i]? = some p → (B ++ Y)[i]? = some p := fun {i p} hi => by
      rw [List.getElem?_append_left (List.getElem?_eq_some_iff.mp hi).1]
      exact hi
    refine ⟨⟨fun i j p q hi hj e => h.1 i j p q (hB hi) (hB hj) e, fun k q hk => h.2 k q (hB hk)⟩, ⟨fun i j p q hi hj e => ?_, fun k q hk => h.2 _ q (pt_xat hk)⟩, fun i j p q hi hj e => ?_⟩
    · have := h.1 _ _ p q (pt_xat hi) (pt_xat hj) e
      omega
    · have h1 := h.1 _ _ p q (hB hi) (pt_xat hj) e
      have h2 := (List.getElem?_eq_some_iff.mp hi).1
      omega
  · intro h
    exact h.1.app h.2.1 h.2.2
theorem pt_xpick {D : va_G} {cl : List vw_C} {B Y Y' : va_W} {H : Heap} (hP : va_P D cl (B ++ Y) H) (ks : List Nat) (hs : ks.map (fun i => Y[i]?) = Y'.map some) : va_P D cl (B ++ Y') H := by
  obtain ⟨h1, h2⟩ := pt_xP.mp hP
  refine pt_xP.mpr ⟨h1, fun k q hk => ?_⟩
  have h3 : (ks.map (fun i => Y[i]?))[k]? = some (some q) := by rw [hs, List.getElem?_map, hk]; rfl
  rw [List.getElem?_map] at h3
  cases hi : ks[k]? with
  | none => rw [hi] at h3; cases h3
  | some i => rw [hi] at h3; exact h2 i q (Option.some.inj h3)
theorem pt_xpickD {A : Nat → Prop} {B Y Y' : va_W} (hD : va_D A (B ++ Y)) (ks : List Nat) (hn : va_nd ks = true) (hs : ks.map (fun i => Y[i]?) = Y'.map some) : va_D A (B ++ Y') := by
  obtain ⟨h1, h2, h3⟩ := pt_xD.mp hD
  refine pt_xD.mpr ⟨h1, h2.sub ks hn hs, fun i k p q hi hk => ?_⟩
  have h4 : (ks.map (fun i => Y[i]?))[k]? = some (some q) := by rw [hs, List.getElem?_map, hk]; rfl
  rw [List.getElem?_map] at h4
  cases hj : ks[k]? with
  | none => rw [hj] at h4; cases h4
  | some j => rw [hj] at h4; exact h3 i j p q hi (Option.some.inj h4)
/-- the same addresses: the same is apart -/
theorem pt_xsame {A : Nat → Prop} {B B1 Y : va_W} (hD : va_D A (B ++ Y)) (hl : B1.length = B.length) (ha : ∀ (i : Nat) (q : Nat × va_E), B1[i]? = some q → ∃ p, B[i]? = some p ∧ p.1 = q.1) : va_D A (B1 ++ Y) := by
  obtain ⟨h1, h2, h3⟩ := pt_xD.mp hD
  refine pt_xD.mpr ⟨⟨fun i j p q hi hj e => ?_, fun k q hk => ?_⟩, h2, fun i j p q hi hj => ?_⟩
  · obtain ⟨p', a1, a2⟩ := ha i p hi
    obtain ⟨q', b1, b2⟩ := ha j q hj
    exact h1.1 i j p' q' a1 b1 (a2.trans (e.trans b2.symm))
  · obtain ⟨q', b1, b2⟩ := ha k q hk
    rw [← b2]; exact h1.2 k q' b1
  · obtain ⟨p', a1, a2⟩ := ha i p hi
    rw [← a2]
    exact h3 i j p' q a1 hj
theorem pt_W_len {cA : Nat → ClassId} {ad : Nat → Nat} {M : pt_M} : (pt_W cA ad M).length = 387 := by simp [pt_W]
theorem pt_W_inv {cA : Nat → ClassId} {ad : Nat → Nat} {M : pt_M} {k : Nat} {q : Nat × va_E} (h : (pt_W cA ad M)[k]? = some q) : k < 387 ∧ q.1 = ad k := by
  have hk : k < 387 := by
    have := (List.getElem?_eq_some_iff.mp h).1
    rwa [pt_W_len] at this
  rw [pt_W_get hk] at h
  cases h
  exact ⟨hk, rfl⟩
theorem pt_xeng {A : Nat → Prop} {cA : Nat → ClassId} {ad : Nat → Nat} {M M1 : pt_M} {Y : va_W} (hD : va_D A (pt_W cA ad M ++ Y)) : va_D A (pt_W cA ad M1 ++ Y) := by
  refine pt_xsame hD (by rw [pt_W_len, pt_W_len]) (fun i q h => ?_)
  obtain ⟨h1, h2⟩ := pt_W_inv h
  exact ⟨_, pt_W_get h1, h2.symm⟩
theorem pt_xI {A : Nat → Prop} {cA : Nat → ClassId} {ad : Nat → Nat} {M : pt_M} {Y : va_W} (hD : va_D A (pt_W cA ad M ++ Y)) : pt_I ad := by
  intro i j hi hj e
  exact (pt_xD.mp hD).1.1 i j _ _ (pt_W_get hi) (pt_W_get hj) e
theorem pt_xA {A : Nat → Prop} {cA : Nat → ClassId} {ad : Nat → Nat} {M : pt_M} {Y : va_W} (hD : va_D A (pt_W cA ad M ++ Y)) {sz : Nat} (hA : ∀ q, sz ≤ q → A q) : ∀ q, pt_fr ad sz q → A q := by
  intro q h
  rcases h with ⟨k, hk, rfl⟩ | h
  · exact (pt_xD.mp hD).1.2 k _ (pt_W_get hk)
  · exact hA q h
/-- behind a call that changed the engine's objects alone -/
theorem pt_xback {A : Nat → Prop} {D : va_G} {cA : Nat → ClassId} {ad : Nat → Nat} {M M1 : pt_M} {Y : va_W} {H H1 : Heap} (hP : va_P D pt_cl (pt_W cA ad M ++ Y) H) (hD : va_D A (pt_W cA ad M ++ Y)) (hP1 : va_P D pt_cl (pt_W cA ad M1) H1) (ho : ∀ q : Nat, q < H.size → ¬ pt_fr ad H.size q → H1[q]? = H[q]?) : va_P D pt_cl (pt_W cA ad M1 ++ Y) H1 := by
  obtain ⟨h1, h2⟩ := pt_xP.mp hP
  refine pt_xP.mpr ⟨hP1, fun k q hk => ?_⟩
  have hl := (h2 k q hk).lt
  refine (h2 k q hk).kept (ho q.1 hl (fun h => ?_))
  rcases h with ⟨j, hj, e⟩ | h
  · exact (pt_xD.mp hD).2.2 j k _ q (pt_W_get hj) hk e.symm
  · omega
theorem pt_xkeep {D : va_G} {cl : List vw_C} {ws : va_W} {H H1 : Heap} (hP : va_P D cl ws H) (ho : ∀ q : Nat, q < H.size → H1[q]? = H[q]?) : va_P D cl ws H1 := fun k q hk => (hP k q hk).kept (ho q.1 (hP k q hk).lt)
theorem pt_asg (vm : Vm) (c : ClassId) : vm.assignable c c = true := by
  show Vm.assignableAux vm (255 + 1) c c = true
  rw [Vm.assignableAux]
  simp only [beq_self_eq_true, Bool.true_or]
section PTX
variable {p : Program} {l : Launch} {e : Env} {R : Room} {s : State} {m : MethodId} {args : Array Value} {below : List Frame} {meth : Method} {c : Code} {H : Heap} {locs : List Loc} {cells slots : Nat} {Q : State → Prop}
variable {cc : ByteArray} {pc nL : Nat} {ls : Array Slot} {rest st : List Value} {D : va_G} {A : Nat → Prop} {cA : Nat → ClassId} {B Y : va_W} {H0 : Heap} {own : String} {a : Nat}
theorem pt_xild (F : pt_F p m c cc nL s args own D cA) (hP : va_P D pt_cl (B ++ Y) H) (i : Nat) {n : Nat} {f : Nat → Int32} (hy : Y[i]? = some (a, .inl (cA 0, n, .inl f))) {j : Int32} (hin : vp_in j n) (hdg : decode cc pc = .ok (.iaload, 1))
    (kk : W p l e R s m args below meth c H locs cells slots Q (F0 m (pc + 1) ls (.int (f j.toNatClampNeg) :: rest))) : W p l e R s m args below meth c H locs cells slots Q (F0 m pc ls (.int j :: .ref a :: rest)) :=
  va_iald (D := D) F.1.1 F.1.2.1 F.2 hP (B.length + i) 0 (pt_xat hy) rfl hin hdg kk
theorem pt_xist (F : pt_F p m c cc nL s args own D cA) (hP : va_P D pt_cl (B ++ Y) H) (hD : va_D A (B ++ Y)) (hS : va_S A H0 H locs) (i : Nat) {n : Nat} {f : Nat → Int32} (hy : Y[i]? = some (a, .inl (cA 0, n, .inl f))) {j x : Int32} (hin : vp_in j n) (hdg : decode cc pc = .ok (.iastore, 1)) {Y' : (Nat → Int32) → va_W} (hY : ∀ f1, Y.set i (a, .inl (cA 0, n, .inl f1)) = Y' f1)
    (kk : ∀ (f1 : Nat → Int32) (H1 : Heap) (locs1 : List Loc), f1 = upd f j.toNatClampNeg x → va_P D pt_cl (B ++ Y' f1) H1 → va_D A (B ++ Y' f1) → va_S A H0 H1 locs1 → W p l e R s m args below meth c H1 locs1 cells slots Q (F0 m (pc + 1) ls rest)) : W p l e R s m args below meth c H locs cells slots Q (F0 m pc ls (.int x :: .int j :: .ref a :: rest)) := by
  refine va_iast (D := D) F.1.1 F.1.2.1 F.2 hP hD hS (B.length + i) 0 (pt_xat hy) rfl hin hdg (fun H1 locs1 g1 g2 g3 => ?_)
  rw [pt_xset, hY] at g1 g2
  exact kk _ H1 locs1 rfl g1 g2 g3
theorem pt_xlen (F : pt_F p m c cc nL s args own D cA) (hP : va_P D pt_cl (B ++ Y) H) (i : Nat) {n : Nat} {f : Nat → Int32} (hy : Y[i]? = some (a, .inl (cA 0, n, .inl f))) (hdg : decode cc pc = .ok (.arraylength, 1))
    (kk : W p l e R s m args below meth c H locs cells slots Q (F0 m (pc + 1) ls (.int (Int32.ofNat n) :: rest))) : W p l e R s m args below meth c H locs cells slots Q (F0 m pc ls (.ref a :: rest)) :=
  va_alen (D := D) F.1.1 F.1.2.1 F.2 hP (B.length + i) 0 (x := (n, .inl f)) (pt_xat hy) rfl rfl hdg kk
theorem pt_xnew (F : pt_F p m c cc nL s args own D cA) (hP : va_P D pt_cl (B ++ Y) H) (hD : va_D A (B ++ Y)) (hS : va_S A H0 H locs) (hA : ∀ q, H0.size ≤ q → A q) (harr : Cond.arrayClass .int ∈ lw_all) {n : Int32} {N : Nat} (hn : ¬ n < 0) (hN : n.toNatClampNeg = N) (hb : N ≤ 64) (hcells : cells + 1 ≤ R.cells) (hslots : slots + N ≤ R.slots) (hdg : decode cc pc = .ok (.newarray .int, 2))
    (kk : ∀ (q : Nat) (H1 : Heap), va_P D pt_cl (B ++ (Y ++ [(q, .inl (cA 0, N, .inl (fun _ => 0)))])) H1 → va_D A (B ++ (Y ++ [(q, .inl (cA 0, N, .inl (fun _ => 0)))])) → va_S A H0 H1 locs →
      W p l e R s m args below meth c H1 locs (cells + 1) (slots + N) Q (F0 m (pc + 2) ls (.ref q :: rest))) : W p l e R s m args below meth c H locs cells slots Q (F0 m pc ls (.int n :: rest)) := by
  refine va_newa (D := D) (ty := .int) (atype := .int) (a0 := (N, .inl (fun _ => 0))) F.1.1 F.1.2.1 (F.1.2.2.2.2 _ harr) rfl F.2 hP hD hS hA (fun _ => rfl) hn hN (by show N * 4 ≤ 536870912; omega) hcells hslots hdg (fun q cB H1 g1 g2 g3 g4 => ?_)
  have e1 := (g1.2 4 (cB, .int) rfl).2
  have e2 := (F.2.2 0 (cA 0, .int) rfl).2
  have e : cB = cA 0 := Option.some.inj (e1.symm.trans e2)
  subst e
  rw [List.append_assoc] at g2 g3
  exact kk q H1 g2 g3 g4
theorem pt_xnewA (F : pt_F p m c cc nL s args own D cA) (hAA : pt_AA cA s) (hP : va_P D pt_cl (B ++ Y) H) (hD : va_D A (B ++ Y)) (hS : va_S A H0 H locs) (hA : ∀ q, H0.size ≤ q → A q) {index : Nat} (hlink : Cond.classLink own index "[I" ∈ lw_all) (harr : (Cond.arrayOver (.array .int)).before args s = true) {n : Int32} {N : Nat} (hn : ¬ n < 0) (hN : n.toNatClampNeg = N) (hb : N ≤ 64) (hcells : cells + 1 ≤ R.cells) (hslots : slots + N ≤ R.slots) (hdg : decode cc pc = .ok (.anewarray index, 3))
    (kk : ∀ (q : Nat) (H1 : Heap), va_P D pt_cl (B ++ (Y ++ [(q, .inl (cA 4, N, .inr (.inr (.inr (.inr (fun _ => none))))))])) H1 → va_D A (B ++ (Y ++ [(q, .inl (cA 4, N, .inr (.inr (.inr (.inr (fun _ => none))))))])) → va_S A H0 H1 locs →
      W p l e R s m args below meth c H1 locs (cells + 1) (slots + N) Q (F0 m (pc + 3) ls (.ref q :: rest))) : W p l e R s m args below meth c H locs cells slots Q (F0 m pc ls (.int n :: rest)) := by
  subst hN
  refine W.anewA (t := .int) F.1.1 F.1.2.1 F.1.2.2.2.1 (F.1.2.2.2.2 _ hlink) harr rfl hdg rfl hn (by omega) hcells hslots fun cB kA comp f1 f2 f3 f4 => ?_
  have e : cB = cA 4 := Option.some.inj (f1.symm.trans hAA.2.1)
  subst e
  generalize hH1 : H.push ({ cls := cA 4, slots := Array.replicate n.toNatClampNeg .null, vm := .none } : Cell) = H1
  have z1 : H1.size = H.size + 1 := by rw [← hH1, Array.size_push]
  have e1 : H1[H.size]? = some (arrV (cA 4) n.toNatClampNeg (fun _ => .null)) := by rw [← hH1, Array.getElem?_push_size, ← arrV_new]
  have o1 : ∀ q : Nat, q < H.size → H1[q]? = H[q]? := fun q hq => by rw [← hH1, Array.getElem?_push, if_neg (Nat.ne_of_lt hq)]
  have hPk : va_P D pt_cl (B ++ Y) H1 := pt_xkeep hP o1
  have hPn : va_P D pt_cl ((B ++ Y) ++ [(H.size, .inl (cA 4, n.toNatClampNeg, .inr (.inr (.inr (.inr (fun _ => none))))))]) H1 := by
    refine pt_xP.mpr ⟨hPk, fun k x hx => ?_⟩
    have hz : k < 1 := (List.getElem?_eq_some_iff.mp hx).1
    rw [show k = 0 by omega] at hx
    cases hx
    show H1[H.size]? = some (vp_cell _ _)
    rw [vp_cell_q]
    exact e1
  have hDn : va_D A ((B ++ Y) ++ [(H.size, .inl (cA 4, n.toNatClampNeg, .inr (.inr (.inr (.inr (fun _ => none))))))]) := hD.push hP rfl (hA _ hS.1)
  rw [List.append_assoc] at hPn hDn
  exact kk H.size H1 hPn hDn ⟨Nat.le_trans hS.1 (by omega), fun x h1 h2 => (o1 x (Nat.lt_of_lt_of_le h1 hS.1)).trans (hS.2.1 x h1 h2), hS.2.2⟩
theorem pt_xastA (F : pt_F p m c cc nL s args own D cA) (hAA : pt_AA cA s) (hP : va_P D pt_cl (B ++ Y) H) (hD : va_D A (B ++ Y)) (hS : va_S A H0 H locs) (i i2 : Nat) {n : Nat} {g : Nat → Option Nat} (hy : Y[i]? = some (a, .inl (cA 4, n, .inr (.inr (.inr (.inr g)))))) {v n2 : Nat} {f2 : Nat → Int32} (hy2 : Y[i2]? = some (v, .inl (cA 0, n2, .inl f2))) {j : Int32} (hin : vp_in j n) (hdg : decode cc pc = .ok (.aastore, 1)) {Y' : (Nat → Option Nat) → va_W} (hY : ∀ f1, Y.set i (a, .inl (cA 4, n, .inr (.inr (.inr (.inr f1))))) = Y' f1)
    (kk : ∀ (g1 : Nat → Option Nat) (H1 : Heap) (locs1 : List Loc), g1 j.toNatClampNeg = some v → va_P D pt_cl (B ++ Y' g1) H1 → va_D A (B ++ Y' g1) → va_S A H0 H1 locs1 → W p l e R s m args below meth c H1 locs1 cells slots Q (F0 m (pc + 1) ls rest)) : W p l e R s m args below meth c H locs cells slots Q (F0 m pc ls (.ref v :: .int j :: .ref a :: rest)) := by
  have hlt : j.toNatClampNeg < n := Nat.not_le.mp fun q => hin (Or.inr q)
  have h0 : ¬ j < 0 := fun q => hin (Or.inl q)
  have ha := pt_xat (B := B) hy
  have hv := hP _ _ (pt_xat (B := B) hy2)
  obtain ⟨-, -, kA, k1, k2⟩ := hAA
  obtain ⟨-, kI, hkI, -⟩ := (F.2.2 0 (cA 0, .int) rfl).1 n2 (fun j => .int (f2 j))
  refine W.aast (t := .array .int) (comp := cA 0) (cell := vp_cell (cA 4) (n, .inr (.inr (.inr (.inr g))))) (cv := vp_cell (cA 0) (n2, .inl f2)) F.1.1 F.1.2.1 (hP _ _ ha) (fun q h => by cases h) (fun h => by cases h) k1 k2 rfl hkI ⟨h0, by show _ < (arrV _ _ _).slots.size; rw [arrV_size]; exact hlt⟩ hv (fun q h => by cases h) hkI (pt_asg _ _) rfl rfl hdg fun H1 e z oq => ?_
  have g1 : va_P D pt_cl ((B ++ Y).set (B.length + i) (a, .inl (cA 4, n, .inr (.inr (.inr (.inr (va_up g j.toNatClampNeg (some v)))))))) H1 := by
    refine hP.set hD ha ?_ oq
    show H1[a]? = some (vp_cell _ _)
    rw [e]
    rw [vp_cell_q, vp_cell_q, arrV_store]
    congr 2
    funext q
    by_cases hq : q = j.toNatClampNeg
    · subst hq
      simp [updV, va_up, va_rf]
    · simp [updV, va_up, hq]
  have g2 := hD.set (e := .inl (cA 4, n, .inr (.inr (.inr (.inr (va_up g j.toNatClampNeg (some v))))))) ha
  rw [pt_xset, hY] at g1 g2
  exact kk _ H1 _ (va_up_self _ _ _) g1 g2 (hS.put z oq (hD.2 _ _ ha))
theorem pt_xaldA (F : pt_F p m c cc nL s args own D cA) (hAA : pt_AA cA s) (hP : va_P D pt_cl (B ++ Y) H) (i : Nat) {n : Nat} {g : Nat → Option Nat} (hy : Y[i]? = some (a, .inl (cA 4, n, .inr (.inr (.inr (.inr g)))))) {j : Int32} {v : Nat} (hg : g j.toNatClampNeg = some v) (hin : vp_in j n) (hdg : decode cc pc = .ok (.aaload, 1))
    (kk : W p l e R s m args below meth c H locs cells slots Q (F0 m (pc + 1) ls (.ref v :: rest))) : W p l e R s m args below meth c H locs cells slots Q (F0 m pc ls (.int j :: .ref a :: rest)) := by
  have hlt : j.toNatClampNeg < n := Nat.not_le.mp fun q => hin (Or.inr q)
  have hc : H[a]? = some (vp_cell (cA 4) (n, .inr (.inr (.inr (.inr g))))) := hP _ _ (pt_xat (B := B) hy)
  refine W.aald (v := .ref v) (ty := .array .int) F.1.1 F.1.2.1 hc (hAA.1 n (fun j => va_rf (g j))) rfl (fun q => by cases q) (by show ¬ (j < 0 ∨ (arrV _ _ _).slots.size ≤ _); rw [arrV_size]; exact hin) (by show (arrV _ _ _).slots[_]? = _; rw [arrV_read _ _ hlt, hg]; rfl) rfl rfl hdg kk
/-- a call of a method that only answers an int -/
theorem pt_callp {Qi : Int32 → Prop} {a : Array Value} (hr : va_Run p l e R s m args below meth c H locs cells slots 0 0 (F0 m pc ls st) rest (va_Qi (fun r (_ : Unit) => Qi r) (fun _ _ => True) (fun _ => False) a) (fun _ => False)) (hS : va_S A H0 H locs)
    (kk : ∀ (r : Int32) (H1 : Heap) (locs1 : List Loc), Qi r → (∀ q : Nat, q < H.size → H1[q]? = H[q]?) → va_S A H0 H1 locs1 → W p l e R s m args below meth c H1 locs1 cells slots Q (F0 m (pc + 3) ls (.int r :: rest))) : W p l e R s m args below meth c H locs cells slots Q (F0 m pc ls st) :=
  va_calli hr hS (fun _ _ h => h.elim) (fun _ h => h.elim) (fun r u t H1 locs1 ht _ hq hB hz ho hS1 => kk r H1 locs1 hq (fun q h => ho q h id) hS1)
/-- its run: static, of the law's class -/
theorem pt_runP (F : pt_F p m c cc nL s args own D cA) {As : List Value} {y : MethodName} {bytes : ByteArray} {maxL index n : Nat} {ret : Option FieldType} {rm : Room} {PU : State → Prop} {Qc : Array Value → State → Outcome → State → Prop} {free : Addr → Prop} {mc ms : Nat}
    (hM : Met l y (Cond.code y bytes maxL ret :: lw_all) rm (va_Pc As PU) Qc mc ms free) (hbl : FrameBlind (va_Pc As PU)) (hp : ∀ U : State, U.heap = H → s.WarmedH U.vm → PU U) (h1 : Cond.code y bytes maxL ret ∈ lw_all) (h2 : Cond.methodLink own index y ∈ lw_all) (h5 : Cond.initialized y.cls ∈ lw_all) (h3 : Cond.static y ∈ lw_all) (hd : y.cls ≠ "java/lang/invoke/MethodHandle" ∧ y.cls ≠ "java/lang/invoke/VarHandle" ∧ (parseMethodDescriptor y.desc).map (fun d => d.parameters.length) = some n) (hrm : rm.cells = mc ∧ rm.slots = ms ∧ rm.frames + 1 ≤ R.frames ∧ 8 + (maxL + 11) + rm.locals ≤ R.locals)
    (hn : As.length = n) (hsz : ls.size = nL) (hst : st = As.reverse ++ rest) (hW : (rest.map fun v => v.category).sum ≤ 8) (hdg : decode cc pc = .ok (.invokestatic index, 3)) (hcs : cells + mc ≤ R.cells ∧ slots + ms ≤ R.slots) :
    va_Run p l e R s m args below meth c H locs cells slots mc ms (F0 m pc ls st) rest (Qc As.toArray) free := by
  have hts := F.1.2.2.2.2
  refine va_runS (As := As) (rest := rest) F.1 hM ⟨⟨hrm.1, hrm.2.1, hrm.2.2.1, hrm.2.2.2, ?_, List.mem_cons_self, hts _ h1, hts _ h5, ⟨hd.1, hd.2.1⟩, fun sig h => ?_, hts _ h2⟩, hts _ h3⟩ ⟨hbl, fun U hU hW => ⟨rfl, hp U hU hW⟩⟩ rfl hn hsz hst (lv_room hW) hdg hcs
  · intro w hw a' U hW
    rcases List.mem_cons.mp hw with rfl | hw
    · exact pt_pay hts _ h1 a' U hW
    · exact pt_pay hts _ hw a' U hW
  · have h6 := hd.2.2
    rw [h] at h6
    exact (Option.some.inj h6).symm
end PTX
