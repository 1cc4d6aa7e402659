section
theorem pt_xat {B Y : va_W} {i : Nat} {q : Nat × va_E} (h : Y[i]? = some q) : (B ++ Y)[B.length + i]? = some q := by
  rw [List.getElem?_append_right (by omega), Nat.add_sub_cancel_left]
  exact h
theorem pt_xset {B Y : va_W} {i : Nat} (q : Nat × va_E) : (B ++ Y).set (B.length + i) q = B ++ Y.set i q := by
  rw [List.set_append_right _ _ (by omega), Nat.add_sub_cancel_left]
theorem pt_xP {D : va_G} {cl : List vw_C} {B Y : va_W} {H : Heap} : va_P D cl (B ++ Y) H ↔ va_P D cl B H ∧ va_P D cl Y H := by
  constructor
  · intro h
    refine ⟨fun k q hk => h k q ?_, fun k q hk => h (B.length + k) q (pt_xat hk)⟩
    rw [List.getElem?_append_left (List.getElem?_eq_some_iff.mp hk).1]
    exact hk
  · intro h
    exact h.1.app h.2
theorem pt_xD {A : Nat → Prop} {B Y : va_W} : va_D A (B ++ Y) ↔ va_D A B ∧ va_D A Y ∧ ∀ (i j : Nat) (p q : Nat × va_E), B[i]? = some p → Y[j]? = some q → p.1 ≠ q.1 := by
  constructor
  · intro h
    have hB : ∀ {i : Nat} {p : Nat × va_E}, B[i]? = some p → (B ++ Y)[i]? = some p := fun {i p} hi => by
      rw [List.getElem?_append_left (List.getElem?_eq_some_iff.mp hi).1]
      exact hi
    refine ⟨⟨fun i j p q hi hj e => h.1 i j p q (hB hi) (hB hj) e, fun k q hk => h.2 k q (hB hk)⟩, ⟨fun i j p q hi hj e => ?_, fun k q hk => h.2 _ q (pt_xat hk)⟩, fun i j p q hi hj e => ?_⟩
    · have := h.1 _ _ p q (pt_xat hi) (pt_xat hj) e
      omega
    · have h1 := h.1 _ _ p q (hB hi) (pt_xat hj) e
      have h2 := (List.getElem?_eq_some_iff.mp hi).1
      omega
  · intro h
    exact h.1.app h.2.1 h.2.2
theorem pt_xpick {D : va_G} {cl : List vw_C} {B Y Y' : va_W} {H : Heap} (hP : va_P D cl (B ++ Y) H) (ks : List Nat) (hs : ks.map (fun i => Y[i]?) = Y'.map some) : va_P D cl (B ++ Y') H := by
  obtain ⟨h1, h2⟩ := pt_xP.mp hP
  refine pt_xP.mpr ⟨h1, fun k q hk => ?_⟩
  have h3 : (ks.map (fun i => Y[i]?))[k]? = some (some q) := by rw [hs, List.getElem?_map, hk]; rfl
  rw [List.getElem?_map] at h3
  cases hi : ks[k]? with
  | none => rw [hi] at h3; cases h3
  | some i => rw [hi] at h3; exact h2 i q (Option.some.inj h3)
theorem pt_xpickD {A : Nat → Prop} {B Y Y' : va_W} (hD : va_D A (B ++ Y)) (ks : List Nat) (hn : va_nd ks = true) (hs : ks.map (fun i => Y[i]?) = Y'.map some) : va_D A (B ++ Y') := by
  obtain ⟨h1, h2, h3⟩ := pt_xD.mp hD
  refine pt_xD.mpr ⟨h1, h2.sub ks hn hs, fun i k p q hi hk => ?_⟩
  have h4 : (ks.map (fun i => Y[i]?))[k]? = some (some q) := by rw [hs, List.getElem?_map, hk]; rfl
  rw [List.getElem?_map] at h4
  cases hj : ks[k]? with
  | none => rw [hj] at h4; cases h4
  | some j => rw [hj] at h4; exact h3 i j p q hi (Option.some.inj h4)
/-- the same addresses: the same is apart -/
theorem pt_xsame {A : Nat → Prop} {B B1 Y : va_W} (hD : va_D A (B ++ Y)) (hl : B1.length = B.length) (ha : ∀ (i : Nat) (q : Nat × va_E), B1[i]? = some q → ∃ p, B[i]? = some p ∧ p.1 = q.1) : va_D A (B1 ++ Y) := by
  obtain ⟨h1, h2, h3⟩ := pt_xD.mp hD
  refine pt_xD.mpr ⟨⟨fun i j p q hi hj e => ?_, fun k q hk => ?_⟩, h2, fun i j p q hi hj => ?_⟩
  · obtain ⟨p', a1, a2⟩ := ha i p hi
    obtain ⟨q', b1, b2⟩ := ha j q hj
    exact h1.1 i j p' q' a1 b1 (a2.trans (e.trans b2.symm))
  · obtain ⟨q', b1, b2⟩ := ha k q hk
    rw [← b2]; exact h1.2 k q' b1
  · obtain ⟨p', a1, a2⟩ := ha i p hi
    rw [← a2]
    exact h3 i j p' q a1 hj
theorem pt_W_len {cA : Nat → ClassId} {ad : Nat → Nat} {M : pt_M} : (pt_W cA ad M).length = 387 := by simp [pt_W]
theorem pt_W_inv {cA : Nat → ClassId} {ad : Nat → Nat} {M : pt_M} {k : Nat} {q : Nat × va_E} (h : (pt_W cA ad M)[k]? = some q) : k < 387 ∧ q.1 = ad k := by
  have hk : k < 387 := by
    have := (List.getElem?_eq_some_iff.mp h).1
    rwa [pt_W_len] at this
  rw [pt_W_get hk] at h
  cases h
  exact ⟨hk, rfl⟩
theorem pt_xeng {A : Nat → Prop} {cA : Nat → ClassId} {ad : Nat → Nat} {M M1 : pt_M} {Y : va_W} (hD : va_D A (pt_W cA ad M ++ Y)) : va_D A (pt_W cA ad M1 ++ Y) := by
  refine pt_xsame hD (by rw [pt_W_len, pt_W_len]) (fun i q h => ?_)
  obtain ⟨h1, h2⟩ := pt_W_inv h
  exact ⟨_, pt_W_get h1, h2.symm⟩
theorem pt_xI {A : Nat → Prop} {cA : Nat → ClassId} {ad : Nat → Nat} {M : pt_M} {Y : va_W} (hD : va_D A (pt_W cA ad M ++ Y)) : pt_I ad := by
  intro i j hi hj e
  exact (pt_xD.mp hD).1.1 i j _ _ (pt_W_get hi) (pt_W_get hj) e
theorem pt_xA {A : Nat → Prop} {cA : Nat → ClassId} {ad : Nat → Nat} {M : pt_M} {Y : va_W} (hD : va_D A (pt_W cA ad M ++ Y)) {sz : Nat} (hA : ∀ q, sz ≤ q → A q) : ∀ q, pt_fr ad sz q → A q := by
  intro q h
  rcases h with ⟨k, hk, rfl⟩ | h
  · exact (pt_xD.mp hD).1.2 k _ (pt_W_get hk)
  · exact hA q h
/-- behind a call that changed the engine's objects alone -/
theorem pt_xback {A : Nat → Prop} {D : va_G} {cA : Nat → ClassId} {ad : Nat → Nat} {M M1 : pt_M} {Y : va_W} {H H1 : Heap} (hP : va_P D pt_cl (pt_W cA ad M ++ Y) H) (hD : va_D A (pt_W cA ad M ++ Y)) (hP1 : va_P D pt_cl (pt_W cA ad M1) H1) (ho : ∀ q : Nat, q < H.size → ¬ pt_fr ad H.size q → H1[q]? = H[q]?) : va_P D pt_cl (pt_W cA ad M1 ++ Y) H1 := by
  obtain ⟨h1, h2⟩ := pt_xP.mp hP
  refine pt_xP.mpr ⟨hP1, fun k q hk => ?_⟩
  have hl := (h2 k q hk).lt
  refine (h2 k q hk).kept (ho q.1 hl (fun h => ?_))
  rcases h with ⟨j, hj, e⟩ | h
  · exact (pt_xD.mp hD).2.2 j k _ q (pt_W_get hj) hk e.symm
  · omega
theorem pt_xkeep {D : va_G} {cl : List vw_C} {ws : va_W} {H H1 : Heap} (hP : va_P D cl ws H) (ho : ∀ q : Nat, q < H.size → H1[q]? = H[q]?) : va_P D cl ws H1 := fun k q hk => (hP k q hk).kept (ho q.1 (hP k q hk).lt)
theorem pt_asg (vm : Vm) (c : ClassId) : vm.assignable c c = true := by
  show Vm.assignableAux vm (255 + 1) c c = true
  rw [Vm.assignableAux]
  simp only [beq_self_eq_true, Bool.true_or]
section PTX
variable {p : Program} {l : Launch} {e : Env} {R : Room} {s : State} {m : MethodId} {args : Array Value} {below : List Frame} {meth : Method} {c : Code} {H : Heap} {locs : List Loc} {cells slots : Nat} {Q : State → Prop}
variable {cc : ByteArray} {pc nL : Nat} {ls : Array Slot} {rest st : List Value} {D : va_G} {A : Nat → Prop} {cA : Nat → ClassId} {B Y : va_W} {H0 : Heap} {own : String} {a : Nat}
theorem pt_xild (F : pt_F p m c cc nL s args own D cA) (hP : va_P D pt_cl (B ++ Y) H) (i : Nat) {n : Nat} {f : Nat → Int32} (hy : Y[i]? = some (a, .inl (cA 0, n, .inl f))) {j : Int32} (hin : vp_in j n) (hdg : decode cc pc = .ok (.iaload, 1))
    (kk : W p l e R s m args below meth c H locs cells slots Q (F0 m (pc + 1) ls (.int (f j.toNatClampNeg) :: rest))) : W p l e R s m args below meth c H locs cells slots Q (F0 m pc ls (.int j :: .ref a :: rest)) :=
  va_iald (D := D) F.1.1 F.1.2.1 F.2 hP (B.length + i) 0 (pt_xat hy) rfl hin hdg kk
theorem pt_xist (F : pt_F p m c cc nL s args own D cA) (hP : va_P D pt_cl (B ++ Y) H) (hD : va_D A (B ++ Y)) (hS : va_S A H0 H locs) (i : Nat) {n : Nat} {f : Nat → Int32} (hy : Y[i]? = some (a, .inl (cA 0, n, .inl f))) {j x : Int32} (hin : vp_in j n) (hdg : decode cc pc = .ok (.iastore, 1)) {Y' : (Nat → Int32) → va_W} (hY : ∀ f1, Y.set i (a, .inl (cA 0, n, .inl f1)) = Y' f1)
    (kk : ∀ (f1 : Nat → Int32) (H1 : Heap) (locs1 : List Loc), f1 = upd f j.toNatClampNeg x → va_P D pt_cl (B ++ Y' f1) H1 → va_D A (B ++ Y' f1) → va_S A H0 H1 locs1 → W p l e R s m args below meth c H1 locs1 cells slots Q (F0 m (pc + 1) ls rest)) : W p l e R s m args below meth c H locs cells slots Q (F0 m pc ls (.int x :: .int j :: .ref a :: rest)) := by
  refine va_iast (D := D) F.1.1 F.1.2.1 F.2 hP hD hS (B.length + i) 0 (pt_xat hy) rfl hin hdg (fun H1 locs1 g1 g2 g3 => ?_)
  rw [pt_xset, hY] at g1 g2
  exact kk _ H1 locs1 rfl g1 g2 g3
theorem pt_xlen (F : pt_F p m c cc nL s args own D cA) (hP : va_P D pt_cl (B ++ Y) H) (i : Nat) {n : Nat} {f : Nat → Int32} (hy : Y[i]? = some (a, .inl (cA 0, n, .inl f))) (hdg : decode cc pc = .ok (.arraylength, 1))
    (kk : W p l e R s m args below meth c H locs cells slots Q (F0 m (pc + 1) ls (.int (Int32.ofNat n) :: rest))) : W p l e R s m args below meth c H locs cells slots Q (F0 m pc ls (.ref a :: rest)) :=
  va_alen (D := D) F.1.1 F.1.2.1 F.2 hP (B.length + i) 0 (x := (n, .inl f)) (pt_xat hy) rfl rfl hdg kk
theorem pt_xnew (F : pt_F p m c cc nL s args own D cA) (hP : va_P D pt_cl (B ++ Y) H) (hD : va_D A (B ++ Y)) (hS : va_S A H0 H locs) (hA : ∀ q, H0.size ≤ q → A q) (harr : Cond.arrayClass .int ∈ lw_all) {n : Int32} {N : Nat} (hn : ¬ n < 0) (hN : n.toNatClampNeg = N) (hb : N ≤ 64) (hcells : cells + 1 ≤ R.cells) (hslots : slots + N ≤ R.slots) (hdg : decode cc pc = .ok (.newarray .int, 2))
    (kk : ∀ (q : Nat) (H1 : Heap), va_P D pt_cl (B ++ (Y ++ [(q, .inl (cA 0, N, .inl (fun _ => 0)))])) H1 → va_D A (B ++ (Y ++ [(q, .inl (cA 0, N, .inl (fun _ => 0)))])) → va_S A H0 H1 locs →
      W p l e R s m args below meth c H1 locs (cells + 1) (slots + N) Q (F0 m (pc + 2) ls (.ref q :: rest))) : W p l e R s m args below meth c H locs cells slots Q (F0 m pc ls (.int n :: rest)) := by
  refine va_newa (D := D) (ty := .int) (atype := .int) (a0 := (N, .inl (fun _ => 0))) F.1.1 F.1.2.1 (F.1.2.2.2.2 _ harr) rfl F.2 hP hD hS hA (fun _ => rfl) hn hN (by show N * 4 ≤ 536870912; omega) hcells hslots hdg (fun q cB H1 g1 g2 g3 g4 => ?_)
  have e1 := (g1.2 7 (cB, .int) rfl).2
  have e2 := (F.2.2 0 (cA 0, .int) rfl).2
  have e : cB = cA 0 := Option.some.inj (e1.symm.trans e2)
  subst e
  rw [List.append_assoc] at g2 g3
  exact kk q H1 g2 g3 g4
end PTX
/-! ROWS FOR CONSTRUCTORS: the world is B and behind it a written list Y of cells, objects among them; and a world as a set of cells. -/
theorem pt_vP {D : va_G} {cl : List vw_C} {ws : va_W} {H : Heap} : va_P D cl ws H ↔ ∀ q ∈ ws, va_at D cl q H := by
  constructor
  · intro h q hq
    obtain ⟨k, hk⟩ := List.getElem?_of_mem hq
    exact h k q hk
  · intro h k q hk
    exact h q (List.mem_of_getElem? hk)
theorem pt_nd {l : List Nat} : l.Nodup ↔ ∀ (i j a : Nat), l[i]? = some a → l[j]? = some a → i = j := by
  constructor
  · intro h i j a hi hj
    have h1 := (List.getElem?_eq_some_iff.mp hi).1
    exact (List.getElem?_inj h1 h).mp (hi.trans hj.symm)
  · intro h
    show List.Pairwise (· ≠ ·) l
    rw [List.pairwise_iff_getElem]
    intro i j hi hj hij e
    have := h i j _ (List.getElem?_eq_getElem hi) (by rw [List.getElem?_eq_getElem hj, e])
    omega
theorem pt_vD {A : Nat → Prop} {ws : va_W} : va_D A ws ↔ (ws.map (·.1)).Nodup ∧ ∀ q ∈ ws, A q.1 := by
  constructor
  · intro h
    refine ⟨pt_nd.mpr (fun i j a hi hj => ?_), fun q hq => ?_⟩
    · rw [List.getElem?_map] at hi hj
      cases h1 : ws[i]? with
      | none => rw [h1] at hi; cases hi
      | some p =>
        cases h2 : ws[j]? with
        | none => rw [h2] at hj; cases hj
        | some q =>
          rw [h1] at hi; rw [h2] at hj
          exact h.1 i j p q h1 h2 ((Option.some.inj hi).trans (Option.some.inj hj).symm)
    · obtain ⟨k, hk⟩ := List.getElem?_of_mem hq
      exact h.2 k q hk
  · intro h
    refine ⟨fun i j p q hi hj e => pt_nd.mp h.1 i j p.1 (by rw [List.getElem?_map, hi]; rfl) (by rw [List.getElem?_map, hj, e]; rfl), fun k q hk => h.2 q (List.mem_of_getElem? hk)⟩
theorem pt_permP {D : va_G} {cl : List vw_C} {ws ws' : va_W} {H : Heap} (h : va_P D cl ws H) (hp : List.Perm ws ws') : va_P D cl ws' H := pt_vP.mpr (fun q hq => pt_vP.mp h q (hp.mem_iff.mpr hq))
theorem pt_permD {A : Nat → Prop} {ws ws' : va_W} (h : va_D A ws) (hp : List.Perm ws ws') : va_D A ws' := pt_vD.mpr ⟨(hp.map _).nodup_iff.mp (pt_vD.mp h).1, fun q hq => (pt_vD.mp h).2 q (hp.mem_iff.mpr hq)⟩
/-- behind a call over the cell x, the caller's last: its cells W1 come in its place -/
theorem pt_ctW {A : Nat → Prop} {D : va_G} {cl : List vw_C} {Z W1 : va_W} {x : Nat × va_E} {H H1 : Heap} (hP : va_P D cl (Z ++ [x]) H) (hD : va_D A (Z ++ [x])) (hP1 : va_P D cl W1 H1) (hD1 : va_D (fun q => q = x.1 ∨ H.size ≤ q) W1) (ho : ∀ q : Nat, q < H.size → ¬ (q = x.1 ∨ H.size ≤ q) → H1[q]? = H[q]?) (hA : ∀ q, H.size ≤ q → A q) : va_P D cl (Z ++ W1) H1 ∧ va_D A (Z ++ W1) := by
  obtain ⟨h1, h2⟩ := pt_xP.mp hP
  obtain ⟨d1, d2, d3⟩ := pt_xD.mp hD
  have hx : A x.1 := d2.2 0 x rfl
  refine ⟨pt_xP.mpr ⟨fun k q hk => ?_, hP1⟩, pt_xD.mpr ⟨d1, hD1.weaken (fun k q _ h => ?_), fun i j p q hi hj e => ?_⟩⟩
  · have hl := (h1 k q hk).lt
    exact (h1 k q hk).kept (ho q.1 hl (fun h => by rcases h with h | h; exact d3 k 0 q x hk rfl h; omega))
  · rcases h with h | h
    · rw [h]; exact hx
    · exact hA _ h
  · have hl := (h1 i p hi).lt
    rcases hD1.2 j q hj with h | h
    · exact d3 i 0 p x hi rfl (e.trans h)
    · omega
theorem pt_ffun {n : Nat} {cB : ClassId} {f g : Nat → Int32} (h : ∀ i, i < n → f i = g i) : vp_cell cB (n, .inl f) = vp_cell cB (n, .inl g) := by
  rw [vp_cell_i, vp_cell_i]
  unfold arrV
  congr 1
  apply Array.ext (by simp)
  intro i h1 h2
  have h3 : i < n := by simpa using h1
  simp [h i h3]
section PTK
variable {p : Program} {l : Launch} {e : Env} {R : Room} {s : State} {m : MethodId} {args : Array Value} {below : List Frame} {meth : Method} {c : Code} {H : Heap} {locs : List Loc} {cells slots : Nat} {Q : State → Prop}
variable {cc : ByteArray} {pc nL : Nat} {ls : Array Slot} {rest st : List Value} {D : va_G} {A : Nat → Prop} {cA : Nat → ClassId} {B Y : va_W} {H0 : Heap} {own : String} {a : Nat}
theorem pt_yget (F : pt_F p m c cc nL s args own D cA) (hP : va_P D pt_cl (B ++ Y) H) (i : Nat) {ci : Nat} {fs : List Value} (hy : Y[i]? = some (a, .inr (ci, fs))) {C ref : String} {T : u_T} {N index : Nat} (hin : ∀ w ∈ u_ws C T N, w ∈ lw_all) (hcl : pt_cl[ci]? = some (C, T, N)) (j : Nat) (hj : j < N) (hlink : Cond.fieldLink own index ref (T j).2.1 (T j).2.2.1 ∈ lw_all) (hsame : (T j).1 = ref) {v : Value} (hv : fs[j]? = some v) (hdg : decode cc pc = .ok (.getfield index, 3))
    (kk : W p l e R s m args below meth c H locs cells slots Q (F0 m (pc + 3) ls (v :: rest))) : W p l e R s m args below meth c H locs cells slots Q (F0 m pc ls (.ref a :: rest)) :=
  va_get (D := D) (ci := ci) F.1.1 F.1.2.1 F.1.2.2.2.2 hin F.1.2.2.2.1 F.2 hP (B.length + i) (pt_xat hy) hcl j hj (F.1.2.2.2.2 _ hlink) (fun x h => by rw [← hsame]; exact h) hv hdg kk
theorem pt_yput (F : pt_F p m c cc nL s args own D cA) (hP : va_P D pt_cl (B ++ Y) H) (hD : va_D A (B ++ Y)) (hS : va_S A H0 H locs) (i : Nat) {ci : Nat} {fs : List Value} (hy : Y[i]? = some (a, .inr (ci, fs))) {C ref : String} {T : u_T} {N index : Nat} (hin : ∀ w ∈ u_ws C T N, w ∈ lw_all) (ty0 : Nat → FieldType) (hty : ∀ k, k < N → parseFieldDescriptor (T k).2.2.1 = some (ty0 k)) (hnm : ∀ a, a < N → ∀ b, b < N → a ≠ b → (T a).2.1 ≠ (T b).2.1) (hcl : pt_cl[ci]? = some (C, T, N)) (j : Nat) (hj : j < N) (hlink : Cond.fieldLink own index ref (T j).2.1 (T j).2.2.1 ∈ lw_all) (hsame : (T j).1 = ref) (hfin : (T j).2.2.2 = false) {v : Value} (hn : narrow (ty0 j) v = v) (hfit : fits (ty0 j) v = true) (hl : j < fs.length) {Y' : va_W} (hY : Y.set i (a, .inr (ci, fs.set j v)) = Y') (hdg : decode cc pc = .ok (.putfield index, 3))
    (kk : ∀ (H1 : Heap) (locs1 : List Loc), va_P D pt_cl (B ++ Y') H1 → va_D A (B ++ Y') → va_S A H0 H1 locs1 → W p l e R s m args below meth c H1 locs1 cells slots Q (F0 m (pc + 3) ls rest)) : W p l e R s m args below meth c H locs cells slots Q (F0 m pc ls (v :: .ref a :: rest)) := by
  refine va_put (D := D) (ci := ci) (ty := ty0 j) F.1.1 F.1.2.1 F.1.2.2.2.2 hin ty0 hty hnm F.1.2.2.2.1 F.2 hP hD hS (B.length + i) (fs := fs) (pt_xat hy) hcl j hj (F.1.2.2.2.2 _ hlink) (fun x h => by rw [← hsame]; exact h) hfin (hty j hj) hn hfit hl hdg (fun H1 locs1 g1 g2 g3 => ?_)
  rw [pt_xset, hY] at g1 g2
  exact kk H1 locs1 g1 g2 g3
theorem pt_yputF (F : pt_F p m c cc nL s args own D cA) (hP : va_P D pt_cl (B ++ Y) H) (hD : va_D A (B ++ Y)) (hS : va_S A H0 H locs) (hin2 : meth.name = "<init>") (i : Nat) {ci : Nat} {fs : List Value} (hy : Y[i]? = some (a, .inr (ci, fs))) {C ref : String} {T : u_T} {N index : Nat} (hin : ∀ w ∈ u_ws C T N, w ∈ lw_all) (ty0 : Nat → FieldType) (hty : ∀ k, k < N → parseFieldDescriptor (T k).2.2.1 = some (ty0 k)) (hnm : ∀ a, a < N → ∀ b, b < N → a ≠ b → (T a).2.1 ≠ (T b).2.1) (hcl : pt_cl[ci]? = some (C, T, N)) (j : Nat) (hj : j < N) (hlink : Cond.fieldLink own index ref (T j).2.1 (T j).2.2.1 ∈ lw_all) (hsame : (T j).1 = ref) (hfin : (T j).2.2.2 = true) (hdecl : (T j).1 = own) {v : Value} (hn : narrow (ty0 j) v = v) (hfit : fits (ty0 j) v = true) (hl : j < fs.length) {Y' : va_W} (hY : Y.set i (a, .inr (ci, fs.set j v)) = Y') (hdg : decode cc pc = .ok (.putfield index, 3))
    (kk : ∀ (H1 : Heap) (locs1 : List Loc), va_P D pt_cl (B ++ Y') H1 → va_D A (B ++ Y') → va_S A H0 H1 locs1 → W p l e R s m args below meth c H1 locs1 cells slots Q (F0 m (pc + 3) ls rest)) : W p l e R s m args below meth c H locs cells slots Q (F0 m pc ls (v :: .ref a :: rest)) := by
  refine va_putF (D := D) (ci := ci) (ty := ty0 j) F.1.1 F.1.2.1 F.1.2.2.2.2 hin ty0 hty hnm F.1.2.2.2.1 F.2 hP hD hS (B.length + i) (fs := fs) (pt_xat hy) hcl j hj (F.1.2.2.2.2 _ hlink) (fun x h => by rw [← hsame]; exact h) hfin hin2 hdecl (hty j hj) hn hfit hl hdg (fun H1 locs1 g1 g2 g3 => ?_)
  rw [pt_xset, hY] at g1 g2
  exact kk H1 locs1 g1 g2 g3
theorem pt_ynew (F : pt_F p m c cc nL s args own D cA) (hP : va_P D pt_cl (B ++ Y) H) (hD : va_D A (B ++ Y)) (hS : va_S A H0 H locs) (hA : ∀ q, H0.size ≤ q → A q) {C : String} {T : u_T} {N index ci : Nat} (hin : ∀ w ∈ u_ws C T N, w ∈ lw_all) (ty : Nat → FieldType) (hty : ∀ k, k < N → parseFieldDescriptor (T k).2.2.1 = some (ty k)) (hlink : Cond.classLink own index C ∈ lw_all) (hinst : Cond.instantiable C N ∈ lw_all) (hini : Cond.initialized C ∈ lw_all) (hc : pt_cl[ci]? = some (C, T, N)) {fs : List Value} (hfs : ∀ j, j < N → defaultValue (ty j) = vp_V fs j) (hcells : cells + 1 ≤ R.cells) (hslots : slots + N ≤ R.slots) (hdg : decode cc pc = .ok (.new index, 3))
    (kk : ∀ (q : Nat) (H1 : Heap), va_P D pt_cl (B ++ (Y ++ [(q, .inr (ci, fs))])) H1 → va_D A (B ++ (Y ++ [(q, .inr (ci, fs))])) → va_S A H0 H1 locs →
      W p l e R s m args below meth c H1 locs (cells + 1) (slots + N) Q (F0 m (pc + 3) ls (.ref q :: rest))) : W p l e R s m args below meth c H locs cells slots Q (F0 m pc ls rest) := by
  refine va_new (D := D) F.1.1 F.1.2.1 F.1.2.2.2.2 hin ty hty F.1.2.2.2.1 (F.1.2.2.2.2 _ hlink) (F.1.2.2.2.2 _ hinst) (F.1.2.2.2.2 _ hini) F.2 hP hD hS hA hc hfs hcells hslots hdg (fun q H1 g1 g2 g3 => ?_)
  rw [List.append_assoc] at g1 g2
  exact kk q H1 g1 g2 g3
theorem pt_ynewq (F : pt_F p m c cc nL s args own D cA) (hP : va_P D pt_cl (B ++ Y) H) (hD : va_D A (B ++ Y)) (hS : va_S A H0 H locs) (hA : ∀ q, H0.size ≤ q → A q) (t : Nat) {C : String} {index : Nat} (ht : (pt_T cA)[t]? = some (cA t, .object C)) (hlink : Cond.classLink own index C ∈ lw_all) (hover : Cond.arrayOver (.object C) ∈ lw_all) {n : Int32} {N : Nat} (hn : ¬ n < 0) (hN : n.toNatClampNeg = N) (hb : N ≤ 64) (hcells : cells + 1 ≤ R.cells) (hslots : slots + N ≤ R.slots) (hdg : decode cc pc = .ok (.anewarray index, 3))
    (kk : ∀ (q : Nat) (H1 : Heap), va_P D pt_cl (B ++ (Y ++ [(q, .inl (cA t, N, .inr (.inr (.inr (.inr (fun _ => none))))))])) H1 → va_D A (B ++ (Y ++ [(q, .inl (cA t, N, .inr (.inr (.inr (.inr (fun _ => none))))))])) → va_S A H0 H1 locs →
      W p l e R s m args below meth c H1 locs (cells + 1) (slots + N) Q (F0 m (pc + 3) ls (.ref q :: rest))) : W p l e R s m args below meth c H locs cells slots Q (F0 m pc ls (.int n :: rest)) := by
  refine va_newq (D := D) F.1.1 F.1.2.1 F.1.2.2.2.1 (F.1.2.2.2.2 _ hlink) (va_AO.of (F.1.2.2.2.2 _ hover)) F.2 hP hD hS hA hn hN (by omega) hcells hslots hdg (fun q cB H1 g1 g2 g3 g4 => ?_)
  obtain ⟨-, -, -, -, -, e1⟩ := (g1.2 7 (cB, .object C) rfl).2
  obtain ⟨-, -, -, -, -, e2⟩ := (F.2.2 t (cA t, .object C) ht).2
  have e : cB = cA t := Option.some.inj (e1.symm.trans e2)
  subst e
  rw [List.append_assoc] at g2 g3
  exact kk q H1 g2 g3 g4
theorem pt_yast (F : pt_F p m c cc nL s args own D cA) (hP : va_P D pt_cl (B ++ Y) H) (hD : va_D A (B ++ Y)) (hS : va_S A H0 H locs) (t : Nat) (i i2 : Nat) {n : Nat} {g : Nat → Option Nat} (hy : Y[i]? = some (a, .inl (cA t, n, .inr (.inr (.inr (.inr g)))))) {v ci : Nat} {vs : List Value} {r : vw_C} (hy2 : Y[i2]? = some (v, .inr (ci, vs))) (hc : pt_cl[ci]? = some r) (ht : (pt_T cA)[t]? = some (cA t, .object r.1)) {j : Int32} (hin : vp_in j n) (hdg : decode cc pc = .ok (.aastore, 1)) {Y' : (Nat → Option Nat) → va_W} (hY : ∀ f1, Y.set i (a, .inl (cA t, n, .inr (.inr (.inr (.inr f1))))) = Y' f1)
    (kk : ∀ (g1 : Nat → Option Nat) (H1 : Heap) (locs1 : List Loc), g1 = va_up g j.toNatClampNeg (some v) → va_P D pt_cl (B ++ Y' g1) H1 → va_D A (B ++ Y' g1) → va_S A H0 H1 locs1 → W p l e R s m args below meth c H1 locs1 cells slots Q (F0 m (pc + 1) ls rest)) : W p l e R s m args below meth c H locs cells slots Q (F0 m pc ls (.ref v :: .int j :: .ref a :: rest)) := by
  refine va_astq (D := D) F.1.1 F.1.2.1 F.2 hP hD hS (B.length + i) t (B.length + i2) ci (pt_xat hy) ht (pt_xat hy2) hc hin hdg (fun H1 locs1 g1 g2 g3 => ?_)
  rw [pt_xset, hY] at g1 g2
  exact kk _ H1 locs1 rfl g1 g2 g3
theorem pt_ylen (F : pt_F p m c cc nL s args own D cA) (hP : va_P D pt_cl (B ++ Y) H) (t i : Nat) {n : Nat} {x : (Nat → Int32) ⊕ (Nat → Int64) ⊕ (Nat → UInt32) ⊕ (Nat → UInt64) ⊕ (Nat → Option Nat)} {ty : FieldType} (ht : (pt_T cA)[t]? = some (cA t, ty)) (hy : Y[i]? = some (a, .inl (cA t, n, x))) (hdg : decode cc pc = .ok (.arraylength, 1))
    (kk : W p l e R s m args below meth c H locs cells slots Q (F0 m (pc + 1) ls (.int (Int32.ofNat n) :: rest))) : W p l e R s m args below meth c H locs cells slots Q (F0 m pc ls (.ref a :: rest)) :=
  va_alen (D := D) F.1.1 F.1.2.1 F.2 hP (B.length + i) t (x := (n, x)) (pt_xat hy) ht rfl hdg kk
/-- a constructor's start and end -/
def pt_KP (D : va_G) (cA : Nat → ClassId) (sz : Nat) (x : Nat × va_E) : State → Prop := fun U => U.heap.size = sz ∧ va_P D pt_cl [x] U.heap ∧ va_K D pt_cl (pt_T cA) U
def pt_KB (D : va_G) (a sz : Nat) {S : Type} (W1 : S → va_W) : S → State → Prop := fun u t => va_P D pt_cl (W1 u) t.heap ∧ va_D (fun q => q = a ∨ sz ≤ q) (W1 u)
abbrev pt_KA (a sz : Nat) : Nat → Prop := fun q => q = a ∨ sz ≤ q
theorem pt_kblind {D : va_G} {cA : Nat → ClassId} {sz : Nat} {x : Nat × va_E} {As : List Value} : FrameBlind (va_Pc As (pt_KP D cA sz x)) := fun a U g mk q => ⟨q.1, q.2.1, q.2.2.1, va_K.moved (u := U) (U := U.calling g mk a) (Vm.Alike.refl U.vm) q.2.2.2⟩
theorem pt_kpay {y : MethodName} {bytes : ByteArray} {maxL : Nat} {ret : Option FieldType} (F : pt_F p m c cc nL s args own D cA) (h1 : Cond.code y bytes maxL ret ∈ lw_all) : ∀ w ∈ (Cond.code y bytes maxL ret :: lw_all), ∀ (a' : Array Value) (U : State), s.WarmedH U.vm → w.before a' U = true := by
  intro w hw a' U hW
  rcases List.mem_cons.mp hw with rfl | hw
  · exact pt_pay F.1.2.2.2.2 _ h1 a' U hW
  · exact pt_pay F.1.2.2.2.2 _ hw a' U hW
theorem pt_kn {y : MethodName} {n : Nat} (hd : (parseMethodDescriptor y.desc).map (fun d => d.parameters.length) = some n) : ∀ sig, parseMethodDescriptor y.desc = some sig → n = sig.parameters.length := fun sig h => by
  rw [h] at hd
  exact (Option.some.inj hd).symm
/-- a constructor is run: within the package, or a nest mate's private one -/
theorem pt_krun (F : pt_F p m c cc nL s args own D cA) {b : Nat} {As : List Value} {y : MethodName} {bytes : ByteArray} {maxL index n : Nat} {rm : Room} {PU : State → Prop} {Qc : Array Value → State → Outcome → State → Prop} {free : Addr → Prop} {mc ms : Nat}
    (hM : Met l y (Cond.code y bytes maxL none :: lw_all) rm (va_Pc (.ref b :: As) PU) Qc mc ms free) (hbl : FrameBlind (va_Pc (.ref b :: As) PU)) (hp : ∀ U : State, U.heap = H → s.WarmedH U.vm → PU U) (h1 : Cond.code y bytes maxL none ∈ lw_all) (h2 : Cond.methodLink own index y ∈ lw_all ∨ ∃ host, Cond.methodLinkNest own index y host ∈ lw_all) (h5 : Cond.initialized y.cls ∈ lw_all) (h3 : Cond.instanceMethod y ∈ lw_all) (hy1 : y.name = "<init>") (hd : y.cls ≠ "java/lang/invoke/MethodHandle" ∧ y.cls ≠ "java/lang/invoke/VarHandle" ∧ (parseMethodDescriptor y.desc).map (fun d => d.parameters.length) = some n) (hrm : rm.cells = mc ∧ rm.slots = ms ∧ rm.frames + 1 ≤ R.frames ∧ 8 + (maxL + 11) + rm.locals ≤ R.locals)
    (hn : As.length = n) (hsz : ls.size = nL) (hst : st = As.reverse ++ .ref b :: rest) (hW : (rest.map fun v => v.category).sum ≤ 8) (hdg : decode cc pc = .ok (.invokespecial index, 3)) (hcs : cells + mc ≤ R.cells ∧ slots + ms ≤ R.slots) :
    va_Run p l e R s m args below meth c H locs cells slots mc ms (F0 m pc ls st) rest (Qc (Value.ref b :: As).toArray) free := by
  have hts := F.1.2.2.2.2
  rcases h2 with h2 | ⟨host, h2⟩
  · exact va_runI (As := As) (rest := rest) F.1 hM ⟨⟨hrm.1, hrm.2.1, hrm.2.2.1, hrm.2.2.2, pt_kpay F h1, List.mem_cons_self, hts _ h1, hts _ h5, ⟨hd.1, hd.2.1⟩, pt_kn hd.2.2, hts _ h2⟩, hy1, hts _ h3⟩ ⟨hbl, fun U hU hW => ⟨rfl, hp U hU hW⟩⟩ rfl hn hsz hst (lv_room hW) hdg hcs
  · exact va_runIN (As := As) (rest := rest) F.1 hM ⟨⟨⟨hrm.1, hrm.2.1, hrm.2.2.1, hrm.2.2.2, pt_kpay F h1, List.mem_cons_self⟩, hts _ h1, hts _ h5, ⟨hd.1, hd.2.1⟩, pt_kn hd.2.2, hts _ h2⟩, hy1, hts _ h3⟩ ⟨hbl, fun U hU hW => ⟨rfl, hp U hU hW⟩⟩ rfl hn hsz hst (lv_room hW) hdg hcs
theorem pt_kcall {S : Type} {post : S → Prop} {W1 : S → va_W} {a : Array Value} {x : Nat × va_E} {mc ms : Nat} (hr : va_Run p l e R s m args below meth c H locs cells slots mc ms (F0 m pc ls st) rest (va_Qv post (pt_KB D x.1 H.size W1) (pt_KA x.1 H.size) a) (pt_KA x.1 H.size)) (hP : va_P D pt_cl (B ++ (Y ++ [x])) H) (hD : va_D A (B ++ (Y ++ [x]))) (hS : va_S A H0 H locs) (hA : ∀ q, H0.size ≤ q → A q)
    (kk : ∀ (u : S) (H1 : Heap) (locs1 : List Loc), post u → va_P D pt_cl (B ++ (Y ++ W1 u)) H1 → va_D A (B ++ (Y ++ W1 u)) → va_S A H0 H1 locs1 → W p l e R s m args below meth c H1 locs1 (cells + mc) (slots + ms) Q (F0 m (pc + 3) ls rest)) : W p l e R s m args below meth c H locs cells slots Q (F0 m pc ls st) := by
  rw [← List.append_assoc] at hP hD
  have hx : A x.1 := (pt_xD.mp hD).2.1.2 0 x rfl
  have hA1 : ∀ q, H.size ≤ q → A q := fun q h => hA q (Nat.le_trans hS.1 h)
  have hA2 : ∀ q, pt_KA x.1 H.size q → A q := fun q h => by
    rcases h with h | h
    · rw [h]; exact hx
    · exact hA1 q h
  refine va_callv hr hS (fun q _ h => hA2 q h) hA2 (fun u t H1 locs1 ht _ hq hB hz ho hS1 => ?_)
  unfold pt_KB at hB
  rw [ht] at hB
  obtain ⟨g1, g2⟩ := pt_ctW hP hD hB.1 hB.2 ho hA1
  rw [List.append_assoc] at g1 g2
  exact kk u H1 locs1 hq g1 g2 hS1
theorem pt_kcall0 {a : Array Value} (hr : va_Run p l e R s m args below meth c H locs cells slots 0 0 (F0 m pc ls st) rest (va_Qv (fun _ : Unit => True) (fun _ _ => True) (fun _ => False) a) (fun _ => False)) (hP : va_P D pt_cl (B ++ Y) H) (hS : va_S A H0 H locs)
    (kk : ∀ (H1 : Heap) (locs1 : List Loc), va_P D pt_cl (B ++ Y) H1 → va_S A H0 H1 locs1 → W p l e R s m args below meth c H1 locs1 cells slots Q (F0 m (pc + 3) ls rest)) : W p l e R s m args below meth c H locs cells slots Q (F0 m pc ls st) :=
  va_callv hr hS (fun _ _ h => h.elim) (fun _ h => h.elim) (fun u t H1 locs1 ht _ hq hB hz ho hS1 => kk H1 locs1 (pt_xkeep hP (fun q h => ho q h id)) hS1)
end PTK
/-- a straight walk's start and end: the world Y alone, and what the statics hold -/
def sx_P (D : va_G) (cA : Nat → ClassId) (x y sz : Nat) (Y : va_W) : State → Prop := fun U => U.heap.size = sz ∧ va_P D pt_cl Y U.heap ∧ va_D (va_A Y sz) Y ∧ va_K D pt_cl (pt_T cA) U ∧ rt_Zs x y (va_A Y sz) U U.heap
def sx_B (D : va_G) (Y : va_W) (sz : Nat) {S : Type} (W1 : S → va_W) : S → State → Prop := fun u t => va_P D pt_cl (W1 u) t.heap ∧ va_D (va_A Y sz) (W1 u)
theorem sx_blind {D : va_G} {cA : Nat → ClassId} {x y sz : Nat} {Y : va_W} {As : List Value} : FrameBlind (va_Pc As (sx_P D cA x y sz Y)) := fun a U g mk q => ⟨q.1, q.2.1, q.2.2.1, q.2.2.2.1, va_K.moved (u := U) (U := U.calling g mk a) (Vm.Alike.refl U.vm) q.2.2.2.2.1, rt_Zs.moved (u := U) (U := U.calling g mk a) (Vm.Alike.refl U.vm) q.2.2.2.2.2⟩
section SXR
variable {p : Program} {l : Launch} {e : Env} {R : Room} {s : State} {m : MethodId} {args : Array Value} {below : List Frame} {meth : Method} {c : Code} {H : Heap} {locs : List Loc} {cells slots : Nat} {Q : State → Prop}
variable {cc : ByteArray} {pc nL : Nat} {ls : Array Slot} {rest st : List Value} {D : va_G} {A : Nat → Prop} {cA : Nat → ClassId} {B Y : va_W} {H0 : Heap} {own : String} {a : Nat}
theorem sx_get (F : pt_F p m c cc nL s args own D cA) (hP : va_P D pt_cl (B ++ Y) H) (i : Nat) {ci : Nat} {fs : List Value} (hy : Y[i]? = some (a, .inr (ci, fs))) {C ref : String} {T : u_T} {N index : Nat} (hin : ∀ w ∈ u_ws C T N, w ∈ lw_all) (hcl : pt_cl[ci]? = some (C, T, N)) (j : Nat) (hj : j < N) (hlink : Cond.fieldLink own index ref (T j).2.1 (T j).2.2.1 ∈ lw_all) (hsame : (T j).1 = ref) {v : Value} (hv : fs[j]? = some v) (hdg : decode cc pc = .ok (.getfield index, 3))
    (kk : W p l e R s m args below meth c H locs cells slots Q (F0 m (pc + 3) ls (v :: rest))) : W p l e R s m args below meth c H locs cells slots Q (F0 m pc ls (.ref a :: rest)) :=
  va_get (D := D) (ci := ci) F.1.1 F.1.2.1 F.1.2.2.2.2 hin F.1.2.2.2.1 F.2 hP (B.length + i) (pt_xat hy) hcl j hj (F.1.2.2.2.2 _ hlink) (fun x h => by rw [← hsame]; exact h) hv hdg kk
theorem sx_put (F : pt_F p m c cc nL s args own D cA) (hP : va_P D pt_cl (B ++ Y) H) (hD : va_D A (B ++ Y)) (hS : va_S A H0 H locs) (i : Nat) {ci : Nat} {fs : List Value} (hy : Y[i]? = some (a, .inr (ci, fs))) {C ref : String} {T : u_T} {N index : Nat} (hin : ∀ w ∈ u_ws C T N, w ∈ lw_all) (ty0 : Nat → FieldType) (hty : ∀ k, k < N → parseFieldDescriptor (T k).2.2.1 = some (ty0 k)) (hnm : ∀ a, a < N → ∀ b, b < N → a ≠ b → (T a).2.1 ≠ (T b).2.1) (hcl : pt_cl[ci]? = some (C, T, N)) (j : Nat) (hj : j < N) (hlink : Cond.fieldLink own index ref (T j).2.1 (T j).2.2.1 ∈ lw_all) (hsame : (T j).1 = ref) (hfin : (T j).2.2.2 = false) {v : Value} (hn : narrow (ty0 j) v = v) (hfit : fits (ty0 j) v = true) (hl : j < fs.length) {Y' : va_W} (hY : Y.set i (a, .inr (ci, fs.set j v)) = Y') (hdg : decode cc pc = .ok (.putfield index, 3))
    (kk : ∀ (H1 : Heap) (locs1 : List Loc), va_P D pt_cl (B ++ Y') H1 → va_D A (B ++ Y') → va_S A H0 H1 locs1 → W p l e R s m args below meth c H1 locs1 cells slots Q (F0 m (pc + 3) ls rest)) : W p l e R s m args below meth c H locs cells slots Q (F0 m pc ls (v :: .ref a :: rest)) := by
  refine va_put (D := D) (ci := ci) (ty := ty0 j) F.1.1 F.1.2.1 F.1.2.2.2.2 hin ty0 hty hnm F.1.2.2.2.1 F.2 hP hD hS (B.length + i) (fs := fs) (pt_xat hy) hcl j hj (F.1.2.2.2.2 _ hlink) (fun x h => by rw [← hsame]; exact h) hfin (hty j hj) hn hfit hl hdg (fun H1 locs1 g1 g2 g3 => ?_)
  rw [pt_xset, hY] at g1 g2
  exact kk H1 locs1 g1 g2 g3
theorem sx_putF (F : pt_F p m c cc nL s args own D cA) (hP : va_P D pt_cl (B ++ Y) H) (hD : va_D A (B ++ Y)) (hS : va_S A H0 H locs) (hin2 : meth.name = "<init>") (i : Nat) {ci : Nat} {fs : List Value} (hy : Y[i]? = some (a, .inr (ci, fs))) {C ref : String} {T : u_T} {N index : Nat} (hin : ∀ w ∈ u_ws C T N, w ∈ lw_all) (ty0 : Nat → FieldType) (hty : ∀ k, k < N → parseFieldDescriptor (T k).2.2.1 = some (ty0 k)) (hnm : ∀ a, a < N → ∀ b, b < N → a ≠ b → (T a).2.1 ≠ (T b).2.1) (hcl : pt_cl[ci]? = some (C, T, N)) (j : Nat) (hj : j < N) (hlink : Cond.fieldLink own index ref (T j).2.1 (T j).2.2.1 ∈ lw_all) (hsame : (T j).1 = ref) (hfin : (T j).2.2.2 = true) (hdecl : (T j).1 = own) {v : Value} (hn : narrow (ty0 j) v = v) (hfit : fits (ty0 j) v = true) (hl : j < fs.length) {Y' : va_W} (hY : Y.set i (a, .inr (ci, fs.set j v)) = Y') (hdg : decode cc pc = .ok (.putfield index, 3))
    (kk : ∀ (H1 : Heap) (locs1 : List Loc), va_P D pt_cl (B ++ Y') H1 → va_D A (B ++ Y') → va_S A H0 H1 locs1 → W p l e R s m args below meth c H1 locs1 cells slots Q (F0 m (pc + 3) ls rest)) : W p l e R s m args below meth c H locs cells slots Q (F0 m pc ls (v :: .ref a :: rest)) := by
  refine va_putF (D := D) (ci := ci) (ty := ty0 j) F.1.1 F.1.2.1 F.1.2.2.2.2 hin ty0 hty hnm F.1.2.2.2.1 F.2 hP hD hS (B.length + i) (fs := fs) (pt_xat hy) hcl j hj (F.1.2.2.2.2 _ hlink) (fun x h => by rw [← hsame]; exact h) hfin hin2 hdecl (hty j hj) hn hfit hl hdg (fun H1 locs1 g1 g2 g3 => ?_)
  rw [pt_xset, hY] at g1 g2
  exact kk H1 locs1 g1 g2 g3
theorem sx_getI (F : pt_F p m c cc nL s args own D cA) (hP : va_P D pt_cl (B ++ Y) H) (i : Nat) {ci : Nat} {fs : List Value} (hy : Y[i]? = some (a, .inr (ci, fs))) {C ref : String} {T : u_T} {N index : Nat} (hin : ∀ w ∈ u_ws C T N, w ∈ lw_all) (hcl : pt_cl[ci]? = some (C, T, N)) (j : Nat) (hj : j < N) (hlink : Cond.fieldLink own index ref (T j).2.1 (T j).2.2.1 ∈ lw_all) (hsame : Cond.sameField ref (T j).1 (T j).2.1 (T j).2.2.1 ∈ lw_all) {v : Value} (hv : fs[j]? = some v) (hdg : decode cc pc = .ok (.getfield index, 3))
    (kk : W p l e R s m args below meth c H locs cells slots Q (F0 m (pc + 3) ls (v :: rest))) : W p l e R s m args below meth c H locs cells slots Q (F0 m pc ls (.ref a :: rest)) :=
  va_get (D := D) (ci := ci) F.1.1 F.1.2.1 F.1.2.2.2.2 hin F.1.2.2.2.1 F.2 hP (B.length + i) (pt_xat hy) hcl j hj (F.1.2.2.2.2 _ hlink) (fun x h => u_same (F.1.2.2.2.2 _ hsame) x h) hv hdg kk
theorem sx_putI (F : pt_F p m c cc nL s args own D cA) (hP : va_P D pt_cl (B ++ Y) H) (hD : va_D A (B ++ Y)) (hS : va_S A H0 H locs) (i : Nat) {ci : Nat} {fs : List Value} (hy : Y[i]? = some (a, .inr (ci, fs))) {C ref : String} {T : u_T} {N index : Nat} (hin : ∀ w ∈ u_ws C T N, w ∈ lw_all) (ty0 : Nat → FieldType) (hty : ∀ k, k < N → parseFieldDescriptor (T k).2.2.1 = some (ty0 k)) (hnm : ∀ a, a < N → ∀ b, b < N → a ≠ b → (T a).2.1 ≠ (T b).2.1) (hcl : pt_cl[ci]? = some (C, T, N)) (j : Nat) (hj : j < N) (hlink : Cond.fieldLink own index ref (T j).2.1 (T j).2.2.1 ∈ lw_all) (hsame : Cond.sameField ref (T j).1 (T j).2.1 (T j).2.2.1 ∈ lw_all) (hfin : (T j).2.2.2 = false) {v : Value} (hn : narrow (ty0 j) v = v) (hfit : fits (ty0 j) v = true) (hl : j < fs.length) {Y' : va_W} (hY : Y.set i (a, .inr (ci, fs.set j v)) = Y') (hdg : decode cc pc = .ok (.putfield index, 3))
    (kk : ∀ (H1 : Heap) (locs1 : List Loc), va_P D pt_cl (B ++ Y') H1 → va_D A (B ++ Y') → va_S A H0 H1 locs1 → W p l e R s m args below meth c H1 locs1 cells slots Q (F0 m (pc + 3) ls rest)) : W p l e R s m args below meth c H locs cells slots Q (F0 m pc ls (v :: .ref a :: rest)) := by
  refine va_put (D := D) (ci := ci) (ty := ty0 j) F.1.1 F.1.2.1 F.1.2.2.2.2 hin ty0 hty hnm F.1.2.2.2.1 F.2 hP hD hS (B.length + i) (fs := fs) (pt_xat hy) hcl j hj (F.1.2.2.2.2 _ hlink) (fun x h => u_same (F.1.2.2.2.2 _ hsame) x h) hfin (hty j hj) hn hfit hl hdg (fun H1 locs1 g1 g2 g3 => ?_)
  rw [pt_xset, hY] at g1 g2
  exact kk H1 locs1 g1 g2 g3
theorem sx_getN (F : pt_F p m c cc nL s args own D cA) (hP : va_P D pt_cl (B ++ Y) H) (i : Nat) {ci : Nat} {fs : List Value} (hy : Y[i]? = some (a, .inr (ci, fs))) {C ref : String} {T : u_T} {N index : Nat} (hin : ∀ w ∈ u_ws C T N, w ∈ lw_all) (hcl : pt_cl[ci]? = some (C, T, N)) (j : Nat) (hj : j < N) {host : String} (hlink : Cond.fieldLinkNest own index ref (T j).2.1 (T j).2.2.1 host ∈ lw_all) (hsame : (T j).1 = ref) {v : Value} (hv : fs[j]? = some v) (hdg : decode cc pc = .ok (.getfield index, 3))
    (kk : W p l e R s m args below meth c H locs cells slots Q (F0 m (pc + 3) ls (v :: rest))) : W p l e R s m args below meth c H locs cells slots Q (F0 m pc ls (.ref a :: rest)) :=
  va_getN (D := D) (ci := ci) F.1.1 F.1.2.1 F.1.2.2.2.2 hin F.1.2.2.2.1 F.2 hP (B.length + i) (pt_xat hy) hcl j hj (F.1.2.2.2.2 _ hlink) (fun x h => by rw [← hsame]; exact h) hv hdg kk
theorem sx_putN (F : pt_F p m c cc nL s args own D cA) (hP : va_P D pt_cl (B ++ Y) H) (hD : va_D A (B ++ Y)) (hS : va_S A H0 H locs) (i : Nat) {ci : Nat} {fs : List Value} (hy : Y[i]? = some (a, .inr (ci, fs))) {C ref : String} {T : u_T} {N index : Nat} (hin : ∀ w ∈ u_ws C T N, w ∈ lw_all) (ty0 : Nat → FieldType) (hty : ∀ k, k < N → parseFieldDescriptor (T k).2.2.1 = some (ty0 k)) (hnm : ∀ a, a < N → ∀ b, b < N → a ≠ b → (T a).2.1 ≠ (T b).2.1) (hcl : pt_cl[ci]? = some (C, T, N)) (j : Nat) (hj : j < N) {host : String} (hlink : Cond.fieldLinkNest own index ref (T j).2.1 (T j).2.2.1 host ∈ lw_all) (hsame : (T j).1 = ref) (hfin : (T j).2.2.2 = false) {v : Value} (hn : narrow (ty0 j) v = v) (hfit : fits (ty0 j) v = true) (hl : j < fs.length) {Y' : va_W} (hY : Y.set i (a, .inr (ci, fs.set j v)) = Y') (hdg : decode cc pc = .ok (.putfield index, 3))
    (kk : ∀ (H1 : Heap) (locs1 : List Loc), va_P D pt_cl (B ++ Y') H1 → va_D A (B ++ Y') → va_S A H0 H1 locs1 → W p l e R s m args below meth c H1 locs1 cells slots Q (F0 m (pc + 3) ls rest)) : W p l e R s m args below meth c H locs cells slots Q (F0 m pc ls (v :: .ref a :: rest)) := by
  refine va_putN (D := D) (ci := ci) (ty := ty0 j) F.1.1 F.1.2.1 F.1.2.2.2.2 hin ty0 hty hnm F.1.2.2.2.1 F.2 hP hD hS (B.length + i) (fs := fs) (pt_xat hy) hcl j hj (F.1.2.2.2.2 _ hlink) (fun x h => by rw [← hsame]; exact h) hfin (hty j hj) hn hfit hl hdg (fun H1 locs1 g1 g2 g3 => ?_)
  rw [pt_xset, hY] at g1 g2
  exact kk H1 locs1 g1 g2 g3
theorem sx_pre {ws wc : va_W} {x y : Nat} (F : pt_F p m c cc nL s args own D cA) (hP : va_P D pt_cl ws H) (hD : va_D A ws) (hN : rt_Zs x y A s s.heap) (hS : va_S A s.heap H locs) (hA : ∀ q, s.heap.size ≤ q → A q) (isC : List Nat) (hn : va_nd isC = true) (hC : isC.map (fun i => ws[i]?) = wc.map some) : ∀ U : State, U.heap = H → s.WarmedH U.vm → sx_P D cA x y H.size wc U := fun U hU hW =>
  ⟨by rw [hU], by rw [hU]; exact hP.sub isC (by rw [← List.filterMap_map (g := id) (f := fun i => ws[i]?)]; rw [hC]; simp), (hD.sub isC hn hC).self, va_K.moved hW.alike F.2, by rw [hU]; exact rt_Zs.moved hW.alike ((hN.kept hS.2.1).narrow (va_free hD hS hA isC hC))⟩
theorem sx_runV {ws : va_W} (F : pt_F p m c cc nL s args own D cA) (hP : va_P D pt_cl ws H) (q0 : Nat) {b ci : Nat} {fs As : List Value} (hy : ws[q0]? = some (b, .inr (ci, fs))) {C : String} {T : u_T} {N : Nat} (hcl : pt_cl[ci]? = some (C, T, N)) {y : MethodName} {bytes : ByteArray} {maxL index n mc ms : Nat} {ret : Option FieldType} {rm : Room} {PU : State → Prop} {Qc : Array Value → State → Outcome → State → Prop} {free : Addr → Prop}
    (hM : Met l y (Cond.code y bytes maxL ret :: lw_all) rm (va_Pc (.ref b :: As) PU) Qc mc ms free) (hbl : FrameBlind (va_Pc (.ref b :: As) PU)) (hp : ∀ U : State, U.heap = H → s.WarmedH U.vm → PU U) (h1 : Cond.code y bytes maxL ret ∈ lw_all) (h2 : Cond.methodLink own index y ∈ lw_all) (h5 : Cond.initialized y.cls ∈ lw_all) (h3 : Cond.instanceMethod y ∈ lw_all) (h4 : Cond.selects C y y ∈ lw_all) (hd : y.cls ≠ "java/lang/invoke/MethodHandle" ∧ y.cls ≠ "java/lang/invoke/VarHandle" ∧ (parseMethodDescriptor y.desc).map (fun d => d.parameters.length) = some n) (hrm : rm.cells = mc ∧ rm.slots = ms ∧ rm.frames + 1 ≤ R.frames ∧ 8 + (maxL + 11) + rm.locals ≤ R.locals)
    (hn : As.length = n) (hsz : ls.size = nL) (hst : st = As.reverse ++ .ref b :: rest) (hW : (rest.map fun v => v.category).sum ≤ 8) (hdg : decode cc pc = .ok (.invokevirtual index, 3)) (hcs : cells + mc ≤ R.cells ∧ slots + ms ≤ R.slots) :
    va_Run p l e R s m args below meth c H locs cells slots mc ms (F0 m pc ls st) rest (Qc (Value.ref b :: As).toArray) free := by
  have hts := F.1.2.2.2.2
  exact va_runV (C := C) (b := b) (As := As) (rest := rest) F.1 hM ⟨⟨hrm.1, hrm.2.1, hrm.2.2.1, hrm.2.2.2, pt_kpay F h1, List.mem_cons_self, hts _ h1, hts _ h5, ⟨hd.1, hd.2.1⟩, pt_kn hd.2.2, hts _ h2⟩, hts _ h3, hts _ h4⟩ ⟨hbl, va_recv F.2 hP (ci := ci) (q0 := q0) hcl hy, fun U hU hW => ⟨rfl, hp U hU hW⟩⟩ rfl hn hsz hst (lv_room hW) hdg hcs
theorem sx_yastO (F : pt_F p m c cc nL s args own D cA) (hP : va_P D pt_cl (B ++ Y) H) (hD : va_D A (B ++ Y)) (hS : va_S A H0 H locs) (i i2 : Nat) {n : Nat} {g : Nat → Option Nat} (hy : Y[i]? = some (a, .inl (cA 4, n, .inr (.inr (.inr (.inr g)))))) {v ci : Nat} {vs : List Value} {rr : vw_C} (hy2 : Y[i2]? = some (v, .inr (ci, vs))) (hc : pt_cl[ci]? = some rr) (hca : Cond.castable rr.1 "java/lang/Object" ∈ lw_all) {j : Int32} (hin : vp_in j n) (hdg : decode cc pc = .ok (.aastore, 1)) {Y' : va_W} (hY : Y.set i (a, .inl (cA 4, n, .inr (.inr (.inr (.inr (va_up g j.toNatClampNeg (some v))))))) = Y')
    (kk : ∀ (H1 : Heap) (locs1 : List Loc), va_P D pt_cl (B ++ Y') H1 → va_D A (B ++ Y') → va_S A H0 H1 locs1 → W p l e R s m args below meth c H1 locs1 cells slots Q (F0 m (pc + 1) ls rest)) : W p l e R s m args below meth c H locs cells slots Q (F0 m pc ls (.ref v :: .int j :: .ref a :: rest)) := by
  refine va_astqO (D := D) F.1.1 F.1.2.1 F.2 hP hD hS (B.length + i) 4 (B.length + i2) ci (pt_xat hy) rfl (va_Nw.of rfl (F.1.2.2.2.2 _ hca)) (pt_xat hy2) hc hin hdg (fun H1 locs1 g1 g2 g3 => ?_)
  rw [pt_xset, hY] at g1 g2
  exact kk H1 locs1 g1 g2 g3
theorem sx_znew (F : pt_F p m c cc nL s args own D cA) (hP : va_P D pt_cl (B ++ Y) H) (hD : va_D A (B ++ Y)) (hS : va_S A H0 H locs) (hA : ∀ q, H0.size ≤ q → A q) (harr : Cond.arrayClass .boolean ∈ lw_all) {n : Int32} {N : Nat} (hn : ¬ n < 0) (hN : n.toNatClampNeg = N) (hb : N ≤ 64) (hcells : cells + 1 ≤ R.cells) (hslots : slots + N ≤ R.slots) (hdg : decode cc pc = .ok (.newarray .boolean, 2))
    (kk : ∀ (q : Nat) (H1 : Heap), va_P D pt_cl (B ++ (Y ++ [(q, .inl (cA 5, N, .inl (fun _ => 0)))])) H1 → va_D A (B ++ (Y ++ [(q, .inl (cA 5, N, .inl (fun _ => 0)))])) → va_S A H0 H1 locs →
      W p l e R s m args below meth c H1 locs (cells + 1) (slots + N) Q (F0 m (pc + 2) ls (.ref q :: rest))) : W p l e R s m args below meth c H locs cells slots Q (F0 m pc ls (.int n :: rest)) := by
  refine va_newa (D := D) (ty := .boolean) (atype := .boolean) (a0 := (N, .inl (fun _ => 0))) F.1.1 F.1.2.1 (F.1.2.2.2.2 _ harr) rfl F.2 hP hD hS hA (fun _ => rfl) hn hN (by show N * 1 ≤ 536870912; omega) hcells hslots hdg (fun q cB H1 g1 g2 g3 g4 => ?_)
  have e1 := (g1.2 7 (cB, .boolean) rfl).2
  have e2 := (F.2.2 5 (cA 5, .boolean) rfl).2
  have e : cB = cA 5 := Option.some.inj (e1.symm.trans e2)
  subst e
  rw [List.append_assoc] at g2 g3
  exact kk q H1 g2 g3 g4
variable {ws wc wr : va_W} {S : Type} {W1 : S → va_W} {av : Array Value} {mc ms : Nat}
theorem sx_callv {post : S → Prop} (hr : va_Run p l e R s m args below meth c H locs cells slots mc ms (F0 m pc ls st) rest (va_Qv post (sx_B D wc H.size W1) (va_A wc H.size) av) (va_A wc H.size)) (hP : va_P D pt_cl ws H) (hD : va_D A ws) (hS : va_S A H0 H locs) (hA : ∀ q, H0.size ≤ q → A q) (isC isR : List Nat) (hC : isC.map (fun i => ws[i]?) = wc.map some) (hR : isR.map (fun i => ws[i]?) = wr.map some) (hn : va_nd isR = true) (hdis : ∀ i ∈ isR, i ∉ isC)
    (kk : ∀ (u : S) (H1 : Heap) (locs1 : List Loc), post u → va_P D pt_cl (wr ++ W1 u) H1 → va_D A (wr ++ W1 u) → va_S A H0 H1 locs1 → W p l e R s m args below meth c H1 locs1 (cells + mc) (slots + ms) Q (F0 m (pc + 3) ls rest)) : W p l e R s m args below meth c H locs cells slots Q (F0 m pc ls st) :=
  va_callv hr hS (fun q _ h => va_free hD hS hA isC hC q h) (va_free hD hS hA isC hC) (fun u t H1 locs1 ht _ hq hB hz ho hS1 => by
    obtain ⟨b1, b2⟩ := hB
    rw [ht] at b1
    obtain ⟨g1, g2⟩ := va_join hP hD isC isR hC hR hn hdis ho (va_free hD hS hA isC hC) b1 b2
    exact kk u H1 locs1 hq g1 g2 hS1)
theorem sx_calli {post : Int32 → S → Prop} (hr : va_Run p l e R s m args below meth c H locs cells slots mc ms (F0 m pc ls st) rest (va_Qi post (sx_B D wc H.size W1) (va_A wc H.size) av) (va_A wc H.size)) (hP : va_P D pt_cl ws H) (hD : va_D A ws) (hS : va_S A H0 H locs) (hA : ∀ q, H0.size ≤ q → A q) (isC isR : List Nat) (hC : isC.map (fun i => ws[i]?) = wc.map some) (hR : isR.map (fun i => ws[i]?) = wr.map some) (hn : va_nd isR = true) (hdis : ∀ i ∈ isR, i ∉ isC)
    (kk : ∀ (r : Int32) (u : S) (H1 : Heap) (locs1 : List Loc), post r u → va_P D pt_cl (wr ++ W1 u) H1 → va_D A (wr ++ W1 u) → va_S A H0 H1 locs1 → W p l e R s m args below meth c H1 locs1 (cells + mc) (slots + ms) Q (F0 m (pc + 3) ls (.int r :: rest))) : W p l e R s m args below meth c H locs cells slots Q (F0 m pc ls st) :=
  va_calli hr hS (fun q _ h => va_free hD hS hA isC hC q h) (va_free hD hS hA isC hC) (fun r u t H1 locs1 ht _ hq hB hz ho hS1 => by
    obtain ⟨b1, b2⟩ := hB
    rw [ht] at b1
    obtain ⟨g1, g2⟩ := va_join hP hD isC isR hC hR hn hdis ho (va_free hD hS hA isC hC) b1 b2
    exact kk r u H1 locs1 hq g1 g2 hS1)
theorem sx_callr {post : S → Prop} {f : S → Nat} (hr : va_Run p l e R s m args below meth c H locs cells slots mc ms (F0 m pc ls st) rest (va_Qr post (fun u q t => q = f u ∧ sx_B D wc H.size W1 u t) (va_A wc H.size) av) (va_A wc H.size)) (hP : va_P D pt_cl ws H) (hD : va_D A ws) (hS : va_S A H0 H locs) (hA : ∀ q, H0.size ≤ q → A q) (isC isR : List Nat) (hC : isC.map (fun i => ws[i]?) = wc.map some) (hR : isR.map (fun i => ws[i]?) = wr.map some) (hn : va_nd isR = true) (hdis : ∀ i ∈ isR, i ∉ isC)
    (kk : ∀ (u : S) (H1 : Heap) (locs1 : List Loc), post u → va_P D pt_cl (wr ++ W1 u) H1 → va_D A (wr ++ W1 u) → va_S A H0 H1 locs1 → W p l e R s m args below meth c H1 locs1 (cells + mc) (slots + ms) Q (F0 m (pc + 3) ls (.ref (f u) :: rest))) : W p l e R s m args below meth c H locs cells slots Q (F0 m pc ls st) :=
  va_callr hr hS (fun q _ h => va_free hD hS hA isC hC q h) (va_free hD hS hA isC hC) (fun u ra t H1 locs1 ht _ hq hB hz ho hS1 => by
    obtain ⟨e0, b1, b2⟩ := hB
    subst e0
    rw [ht] at b1
    obtain ⟨g1, g2⟩ := va_join hP hD isC isR hC hR hn hdis ho (va_free hD hS hA isC hC) b1 b2
    exact kk u H1 locs1 hq g1 g2 hS1)
end SXR
end
section
def sw_AC (cA : Nat → ClassId) (x13 x14 : Nat) (a : Nat) : Unit → va_W := fun u => match u with
  | _ => []
set_option maxHeartbeats 8000000 in
set_option maxRecDepth 100000 in
theorem mtAC (l : Launch) (D : va_G) (cA : Nat → ClassId) (sz x13 x14 : Nat) (a : Nat) : Met l yJxa1e45_init_da8c8 (Cond.code yJxa1e45_init_da8c8 cJxa1e45_init_da8c8 1 none :: lw_all) ({ frames := 1, cells := 0, slots := 0, locals := 12 } : Room) (va_Pc [.ref a] (sx_P D cA x13 x14 sz [])) (va_Qv (fun _ : Unit => True) (sx_B D [] sz (sw_AC cA x13 x14 a)) (va_A [] sz)) 0 0 (va_A [] sz) := by
  refine Met.ofW (cc := cJxa1e45_init_da8c8) (maxL := 1) (ret := none) (by decide) rfl ?_
  intro p e s m args below meth c s₁ B hml hv
  obtain ⟨rfl, hsz, hP, hD, hK, hN⟩ := hv
  have hx := B.exec
  have hb := B.bytes
  have hr := B.returns
  have hts0 := atoms_spec (ws := (Cond.code yJxa1e45_init_da8c8 cJxa1e45_init_da8c8 1 none :: lw_all)) B.pre
  have hown : s.vm.findClass RJxa1e45 = some m.cls := findClass_of_methodNamed B.named
  have hlocks := B.notSynchronized
  subst hsz
  have hin : meth.name = "<init>" := (name_of_methodNamed B.named B.method).1
  have F : pt_F p m c cJxa1e45_init_da8c8 1 s _ RJxa1e45 D cA := ⟨⟨hx, hb, hml, hown, fun w h => hts0 w (List.mem_cons_of_mem _ h)⟩, hK⟩
  have s_cb : 0 ≤ (headSpec (Cond.code yJxa1e45_init_da8c8 cJxa1e45_init_da8c8 1 none :: lw_all) ({ frames := 1, cells := 0, slots := 0, locals := 12 } : Room)).room.cells := (Nat.le_of_ble_eq_true rfl)
  have s_sb : 0 ≤ (headSpec (Cond.code yJxa1e45_init_da8c8 cJxa1e45_init_da8c8 1 none :: lw_all) ({ frames := 1, cells := 0, slots := 0, locals := 12 } : Room)).room.slots := (Nat.le_of_ble_eq_true rfl)
  have hS : va_S (va_A [] s.heap.size) s.heap s.heap [] := va_S.rf
  have hA : ∀ q, s.heap.size ≤ q → (va_A [] s.heap.size) q := fun q h => Or.inr h
  replace hP : va_P D pt_cl (([] : va_W) ++ []) s.heap := hP
  replace hD : va_D (va_A [] s.heap.size) (([] : va_W) ++ []) := hD
  have hl := lv_entry ([.ref a]) (n := 1) (Nat.le_of_ble_eq_true rfl)
  rw [lg_entry_eq]
  generalize (lg_sl ([.ref a]) ++ List.replicate (1 - (lg_sl ([.ref a])).length) Slot.unset).toArray = ls at hl ⊢
  have hl : lv_has ls 1 [(0, .ref a)] := hl
  refine lv_aload_n hx hb dJxa1e45_init_da8c8_0 rfl (lv_at hl 0 rfl) ?_
  refine W.objInit hx hb hown (F.1.2.2.2.2 _ kw_969) (F.1.2.2.2.2 _ kw_89) (F.1.2.2.2.2 _ kw_90) rfl (by rw [hml]; exact hl.1) rfl dJxa1e45_init_da8c8_1 (Nat.le_of_ble_eq_true rfl) (Nat.le_of_ble_eq_true rfl) ?_
  refine W.eq (g2 := F0 m 4 ls []) rfl ?_
  exact W.vret hx hb hr (fun t ht hW => ⟨⟨(), rfl, trivial, ⟨by rw [ht]; exact hP, hD⟩⟩, hS.F ht⟩) hS.2.2 dJxa1e45_init_da8c8_4
def sw_AB (cA : Nat → ClassId) (x13 x14 : Nat) (a : Nat) : Unit → va_W := fun u => match u with
  | _ => [(a, .inr (13, [.int 0, .null, .int 0]))]
set_option maxHeartbeats 8000000 in
set_option maxRecDepth 100000 in
theorem mtAB (l : Launch) (D : va_G) (cA : Nat → ClassId) (sz x13 x14 : Nat) (a : Nat) : Met l yJxc12de_init_da8c8 (Cond.code yJxc12de_init_da8c8 cJxc12de_init_da8c8 1 none :: lw_all) ({ frames := 2, cells := 0, slots := 0, locals := 32 } : Room) (va_Pc [.ref a] (sx_P D cA x13 x14 sz [(a, .inr (13, [.int 0, .null, .int 0]))])) (va_Qv (fun _ : Unit => True) (sx_B D [(a, .inr (13, [.int 0, .null, .int 0]))] sz (sw_AB cA x13 x14 a)) (va_A [(a, .inr (13, [.int 0, .null, .int 0]))] sz)) 0 0 (va_A [(a, .inr (13, [.int 0, .null, .int 0]))] sz) := by
  refine Met.ofW (cc := cJxc12de_init_da8c8) (maxL := 1) (ret := none) (by decide) rfl ?_
  intro p e s m args below meth c s₁ B hml hv
  obtain ⟨rfl, hsz, hP, hD, hK, hN⟩ := hv
  have hx := B.exec
  have hb := B.bytes
  have hr := B.returns
  have hts0 := atoms_spec (ws := (Cond.code yJxc12de_init_da8c8 cJxc12de_init_da8c8 1 none :: lw_all)) B.pre
  have hown : s.vm.findClass RJxc12de = some m.cls := findClass_of_methodNamed B.named
  have hlocks := B.notSynchronized
  subst hsz
  have hin : meth.name = "<init>" := (name_of_methodNamed B.named B.method).1
  have F : pt_F p m c cJxc12de_init_da8c8 1 s _ RJxc12de D cA := ⟨⟨hx, hb, hml, hown, fun w h => hts0 w (List.mem_cons_of_mem _ h)⟩, hK⟩
  have s_cb : 0 ≤ (headSpec (Cond.code yJxc12de_init_da8c8 cJxc12de_init_da8c8 1 none :: lw_all) ({ frames := 2, cells := 0, slots := 0, locals := 32 } : Room)).room.cells := (Nat.le_of_ble_eq_true rfl)
  have s_sb : 0 ≤ (headSpec (Cond.code yJxc12de_init_da8c8 cJxc12de_init_da8c8 1 none :: lw_all) ({ frames := 2, cells := 0, slots := 0, locals := 32 } : Room)).room.slots := (Nat.le_of_ble_eq_true rfl)
  have hS : va_S (va_A [(a, .inr (13, [.int 0, .null, .int 0]))] s.heap.size) s.heap s.heap [] := va_S.rf
  have hA : ∀ q, s.heap.size ≤ q → (va_A [(a, .inr (13, [.int 0, .null, .int 0]))] s.heap.size) q := fun q h => Or.inr h
  replace hP : va_P D pt_cl (([] : va_W) ++ [(a, .inr (13, [.int 0, .null, .int 0]))]) s.heap := hP
  replace hD : va_D (va_A [(a, .inr (13, [.int 0, .null, .int 0]))] s.heap.size) (([] : va_W) ++ [(a, .inr (13, [.int 0, .null, .int 0]))]) := hD
  have hl := lv_entry ([.ref a]) (n := 1) (Nat.le_of_ble_eq_true rfl)
  rw [lg_entry_eq]
  generalize (lg_sl ([.ref a]) ++ List.replicate (1 - (lg_sl ([.ref a])).length) Slot.unset).toArray = ls at hl ⊢
  have hl : lv_has ls 1 [(0, .ref a)] := hl
  refine lv_aload_n hx hb dJxc12de_init_da8c8_0 rfl (lv_at hl 0 rfl) ?_
  refine sx_callv (wc := []) (wr := [(a, .inr (13, [.int 0, .null, .int 0]))]) (pt_krun (n := 0) (As := []) (rest := []) F (mtAC l D cA _ x13 x14 a ) sx_blind (sx_pre (wc := []) F hP hD hN hS hA [] rfl rfl) kw_968 (Or.inl kw_966) kw_62 kw_967 rfl ⟨by decide, by decide, by decide +kernel⟩ ⟨rfl, rfl, (Nat.le_of_ble_eq_true rfl), (Nat.le_of_ble_eq_true rfl)⟩ rfl hl.1 rfl (Nat.le_of_ble_eq_true rfl) dJxc12de_init_da8c8_1 ⟨(Nat.le_trans (Nat.le_of_ble_eq_true rfl) s_cb), (Nat.le_trans (Nat.le_of_ble_eq_true rfl) s_sb)⟩) hP hD hS hA [] [0] rfl rfl rfl (by decide) (fun _ H locs _ hP hD hS => ?_)
  replace hP : va_P D pt_cl (([] : va_W) ++ [(a, .inr (13, [.int 0, .null, .int 0]))]) H := hP
  replace hD : va_D (va_A [(a, .inr (13, [.int 0, .null, .int 0]))] s.heap.size) (([] : va_W) ++ [(a, .inr (13, [.int 0, .null, .int 0]))]) := hD
  refine W.widen (k := 0) (n := 0) (Nat.le_of_ble_eq_true rfl) (Nat.le_of_ble_eq_true rfl) ?_
  refine lv_aload_n hx hb dJxc12de_init_da8c8_4 rfl (lv_at hl 0 rfl) ?_
  refine lv_iconst (v := 0) hx hb dJxc12de_init_da8c8_5 (by decide) ?_
  refine sx_put (Y' := [(a, .inr (13, [.int 0, .null, .int 0]))]) F hP hD hS 0 rfl inX13 tyJx4a65c tyJx4a65c_ok nmJx4a65c rfl 0 (by decide) kw_974 rfl rfl rfl rfl (Nat.le_of_ble_eq_true rfl) rfl dJxc12de_init_da8c8_6 (fun H locs hP hD hS => ?_)
  exact W.vret hx hb hr (fun t ht hW => ⟨⟨(), rfl, trivial, ⟨by rw [ht]; exact hP, hD⟩⟩, hS.F ht⟩) hS.2.2 dJxc12de_init_da8c8_9
def sw_LI (cA : Nat → ClassId) (x13 x14 : Nat) (a : Nat) : Unit → va_W := fun u => match u with
  | _ => [(a, .inr (13, [.int 0, .ref x14, .int 0]))]
set_option maxHeartbeats 8000000 in
set_option maxRecDepth 100000 in
theorem mtLI (l : Launch) (D : va_G) (cA : Nat → ClassId) (sz x13 x14 : Nat) (a : Nat) : Met l yJx4a65c_init_da8c8 (Cond.code yJx4a65c_init_da8c8 cJx4a65c_init_da8c8 1 none :: lw_all) ({ frames := 3, cells := 0, slots := 0, locals := 52 } : Room) (va_Pc [.ref a] (sx_P D cA x13 x14 sz [(a, .inr (13, [.int 0, .null, .int 0]))])) (va_Qv (fun _ : Unit => True) (sx_B D [(a, .inr (13, [.int 0, .null, .int 0]))] sz (sw_LI cA x13 x14 a)) (va_A [(a, .inr (13, [.int 0, .null, .int 0]))] sz)) 0 0 (va_A [(a, .inr (13, [.int 0, .null, .int 0]))] sz) := by
  refine Met.ofW (cc := cJx4a65c_init_da8c8) (maxL := 1) (ret := none) (by decide) rfl ?_
  intro p e s m args below meth c s₁ B hml hv
  obtain ⟨rfl, hsz, hP, hD, hK, hN⟩ := hv
  have hx := B.exec
  have hb := B.bytes
  have hr := B.returns
  have hts0 := atoms_spec (ws := (Cond.code yJx4a65c_init_da8c8 cJx4a65c_init_da8c8 1 none :: lw_all)) B.pre
  have hown : s.vm.findClass RJx4a65c = some m.cls := findClass_of_methodNamed B.named
  have hlocks := B.notSynchronized
  subst hsz
  have hin : meth.name = "<init>" := (name_of_methodNamed B.named B.method).1
  have F : pt_F p m c cJx4a65c_init_da8c8 1 s _ RJx4a65c D cA := ⟨⟨hx, hb, hml, hown, fun w h => hts0 w (List.mem_cons_of_mem _ h)⟩, hK⟩
  have s_cb : 0 ≤ (headSpec (Cond.code yJx4a65c_init_da8c8 cJx4a65c_init_da8c8 1 none :: lw_all) ({ frames := 3, cells := 0, slots := 0, locals := 52 } : Room)).room.cells := (Nat.le_of_ble_eq_true rfl)
  have s_sb : 0 ≤ (headSpec (Cond.code yJx4a65c_init_da8c8 cJx4a65c_init_da8c8 1 none :: lw_all) ({ frames := 3, cells := 0, slots := 0, locals := 52 } : Room)).room.slots := (Nat.le_of_ble_eq_true rfl)
  have hS : va_S (va_A [(a, .inr (13, [.int 0, .null, .int 0]))] s.heap.size) s.heap s.heap [] := va_S.rf
  have hA : ∀ q, s.heap.size ≤ q → (va_A [(a, .inr (13, [.int 0, .null, .int 0]))] s.heap.size) q := fun q h => Or.inr h
  replace hP : va_P D pt_cl (([] : va_W) ++ [(a, .inr (13, [.int 0, .null, .int 0]))]) s.heap := hP
  replace hD : va_D (va_A [(a, .inr (13, [.int 0, .null, .int 0]))] s.heap.size) (([] : va_W) ++ [(a, .inr (13, [.int 0, .null, .int 0]))]) := hD
  have hl := lv_entry ([.ref a]) (n := 1) (Nat.le_of_ble_eq_true rfl)
  rw [lg_entry_eq]
  generalize (lg_sl ([.ref a]) ++ List.replicate (1 - (lg_sl ([.ref a])).length) Slot.unset).toArray = ls at hl ⊢
  have hl : lv_has ls 1 [(0, .ref a)] := hl
  refine lv_aload_n hx hb dJx4a65c_init_da8c8_0 rfl (lv_at hl 0 rfl) ?_
  refine sx_callv (wc := [(a, .inr (13, [.int 0, .null, .int 0]))]) (wr := []) (pt_krun (n := 0) (As := []) (rest := []) F (mtAB l D cA _ x13 x14 a ) sx_blind (sx_pre (wc := [(a, .inr (13, [.int 0, .null, .int 0]))]) F hP hD hN hS hA [0] rfl rfl) kw_965 (Or.inl kw_963) kw_63 kw_964 rfl ⟨by decide, by decide, by decide +kernel⟩ ⟨rfl, rfl, (Nat.le_of_ble_eq_true rfl), (Nat.le_of_ble_eq_true rfl)⟩ rfl hl.1 rfl (Nat.le_of_ble_eq_true rfl) dJx4a65c_init_da8c8_1 ⟨(Nat.le_trans (Nat.le_of_ble_eq_true rfl) s_cb), (Nat.le_trans (Nat.le_of_ble_eq_true rfl) s_sb)⟩) hP hD hS hA [0] [] rfl rfl rfl (by decide) (fun _ H locs _ hP hD hS => ?_)
  replace hP : va_P D pt_cl (([] : va_W) ++ [(a, .inr (13, [.int 0, .null, .int 0]))]) H := hP
  replace hD : va_D (va_A [(a, .inr (13, [.int 0, .null, .int 0]))] s.heap.size) (([] : va_W) ++ [(a, .inr (13, [.int 0, .null, .int 0]))]) := hD
  refine W.widen (k := 0) (n := 0) (Nat.le_of_ble_eq_true rfl) (Nat.le_of_ble_eq_true rfl) ?_
  refine lv_aload_n hx hb dJx4a65c_init_da8c8_4 rfl (lv_at hl 0 rfl) ?_
  refine va_gets hx hb hN.2.2.1 hS hown (F.1.2.2.2.2 _ kw_970) (fun x h => h) dJx4a65c_init_da8c8_5 ?_
  refine sx_put (Y' := [(a, .inr (13, [.int 0, .ref x14, .int 0]))]) F hP hD hS 0 rfl inX13 tyJx4a65c tyJx4a65c_ok nmJx4a65c rfl 1 (by decide) kw_972 rfl rfl rfl rfl (Nat.le_of_ble_eq_true rfl) rfl dJx4a65c_init_da8c8_8 (fun H locs hP hD hS => ?_)
  exact W.vret hx hb hr (fun t ht hW => ⟨⟨(), rfl, trivial, ⟨by rw [ht]; exact hP, hD⟩⟩, hS.F ht⟩) hS.2.2 dJx4a65c_init_da8c8_11
def sw_CH (cA : Nat → ClassId) (x13 x14 : Nat) (a : Nat) : Nat × Nat → va_W := fun u => match u with
  | (q5, q16) => [(a, .inr (8, [.ref q5, .ref q16])), (q5, .inr (13, [.int 0, .ref x14, .int 0])), (q16, .inr (13, [.int 0, .ref x14, .int 0]))]
set_option maxHeartbeats 8000000 in
set_option maxRecDepth 100000 in
theorem mtCH (l : Launch) (D : va_G) (cA : Nat → ClassId) (sz x13 x14 : Nat) (a : Nat) : Met l yX8_init (Cond.code yX8_init cX8_init 1 none :: lw_all) ({ frames := 4, cells := 2, slots := 6, locals := 72 } : Room) (va_Pc [.ref a] (sx_P D cA x13 x14 sz [(a, .inr (8, [.null, .null]))])) (va_Qv (fun _ : Nat × Nat => True) (sx_B D [(a, .inr (8, [.null, .null]))] sz (sw_CH cA x13 x14 a)) (va_A [(a, .inr (8, [.null, .null]))] sz)) 2 6 (va_A [(a, .inr (8, [.null, .null]))] sz) := by
  refine Met.ofW (cc := cX8_init) (maxL := 1) (ret := none) (by decide) rfl ?_
  intro p e s m args below meth c s₁ B hml hv
  obtain ⟨rfl, hsz, hP, hD, hK, hN⟩ := hv
  have hx := B.exec
  have hb := B.bytes
  have hr := B.returns
  have hts0 := atoms_spec (ws := (Cond.code yX8_init cX8_init 1 none :: lw_all)) B.pre
  have hown : s.vm.findClass RX8 = some m.cls := findClass_of_methodNamed B.named
  have hlocks := B.notSynchronized
  subst hsz
  have hin : meth.name = "<init>" := (name_of_methodNamed B.named B.method).1
  have F : pt_F p m c cX8_init 1 s _ RX8 D cA := ⟨⟨hx, hb, hml, hown, fun w h => hts0 w (List.mem_cons_of_mem _ h)⟩, hK⟩
  have s_cb : 2 ≤ (headSpec (Cond.code yX8_init cX8_init 1 none :: lw_all) ({ frames := 4, cells := 2, slots := 6, locals := 72 } : Room)).room.cells := (Nat.le_of_ble_eq_true rfl)
  have s_sb : 6 ≤ (headSpec (Cond.code yX8_init cX8_init 1 none :: lw_all) ({ frames := 4, cells := 2, slots := 6, locals := 72 } : Room)).room.slots := (Nat.le_of_ble_eq_true rfl)
  have hS : va_S (va_A [(a, .inr (8, [.null, .null]))] s.heap.size) s.heap s.heap [] := va_S.rf
  have hA : ∀ q, s.heap.size ≤ q → (va_A [(a, .inr (8, [.null, .null]))] s.heap.size) q := fun q h => Or.inr h
  replace hP : va_P D pt_cl (([] : va_W) ++ [(a, .inr (8, [.null, .null]))]) s.heap := hP
  replace hD : va_D (va_A [(a, .inr (8, [.null, .null]))] s.heap.size) (([] : va_W) ++ [(a, .inr (8, [.null, .null]))]) := hD
  have hl := lv_entry ([.ref a]) (n := 1) (Nat.le_of_ble_eq_true rfl)
  rw [lg_entry_eq]
  generalize (lg_sl ([.ref a]) ++ List.replicate (1 - (lg_sl ([.ref a])).length) Slot.unset).toArray = ls at hl ⊢
  have hl : lv_has ls 1 [(0, .ref a)] := hl
  refine lv_aload_n hx hb dX8_init_0 rfl (lv_at hl 0 rfl) ?_
  refine W.objInit hx hb hown (F.1.2.2.2.2 _ kw_957) (F.1.2.2.2.2 _ kw_89) (F.1.2.2.2.2 _ kw_90) rfl (by rw [hml]; exact hl.1) rfl dX8_init_1 (Nat.le_of_ble_eq_true rfl) (Nat.le_of_ble_eq_true rfl) ?_
  refine W.eq (g2 := F0 m 4 ls []) rfl ?_
  refine lv_aload_n hx hb dX8_init_4 rfl (lv_at hl 0 rfl) ?_
  refine pt_ynew (ci := 13) (fs := [.int 0, .null, .int 0]) F hP hD hS hA inX13 tyJx4a65c tyJx4a65c_ok kw_958 kw_959 kw_64 rfl (fun j hj => by rcases (show j = 0 ∨ j = 1 ∨ j = 2 by omega) with rfl | rfl | rfl <;> rfl) (Nat.le_trans (Nat.le_of_ble_eq_true rfl) s_cb) (Nat.le_trans (Nat.le_of_ble_eq_true rfl) s_sb) dX8_init_5 (fun q5 H hP hD hS => ?_)
  replace hP : va_P D pt_cl (([] : va_W) ++ [(a, .inr (8, [.null, .null])), (q5, .inr (13, [.int 0, .null, .int 0]))]) H := hP
  replace hD : va_D (va_A [(a, .inr (8, [.null, .null]))] s.heap.size) (([] : va_W) ++ [(a, .inr (8, [.null, .null])), (q5, .inr (13, [.int 0, .null, .int 0]))]) := hD
  refine W.widen (k := 1) (n := 3) (Nat.le_of_ble_eq_true rfl) (Nat.le_of_ble_eq_true rfl) ?_
  refine lv_dup hx hb dX8_init_8 rfl ?_
  refine sx_callv (wc := [(q5, .inr (13, [.int 0, .null, .int 0]))]) (wr := [(a, .inr (8, [.null, .null]))]) (pt_krun (n := 0) (As := []) (rest := [.ref q5, .ref a]) F (mtLI l D cA _ x13 x14 q5 ) sx_blind (sx_pre (wc := [(q5, .inr (13, [.int 0, .null, .int 0]))]) F hP hD hN hS hA [1] rfl rfl) kw_962 (Or.inl kw_960) kw_64 kw_961 rfl ⟨by decide, by decide, by decide +kernel⟩ ⟨rfl, rfl, (Nat.le_of_ble_eq_true rfl), (Nat.le_of_ble_eq_true rfl)⟩ rfl hl.1 rfl (Nat.le_of_ble_eq_true rfl) dX8_init_9 ⟨(Nat.le_trans (Nat.le_of_ble_eq_true rfl) s_cb), (Nat.le_trans (Nat.le_of_ble_eq_true rfl) s_sb)⟩) hP hD hS hA [1] [0] rfl rfl rfl (by decide) (fun _ H locs _ hP hD hS => ?_)
  replace hP : va_P D pt_cl (([] : va_W) ++ [(a, .inr (8, [.null, .null])), (q5, .inr (13, [.int 0, .ref x14, .int 0]))]) H := hP
  replace hD : va_D (va_A [(a, .inr (8, [.null, .null]))] s.heap.size) (([] : va_W) ++ [(a, .inr (8, [.null, .null])), (q5, .inr (13, [.int 0, .ref x14, .int 0]))]) := hD
  refine W.widen (k := 1) (n := 3) (Nat.le_of_ble_eq_true rfl) (Nat.le_of_ble_eq_true rfl) ?_
  refine sx_putF (Y' := [(a, .inr (8, [.ref q5, .null])), (q5, .inr (13, [.int 0, .ref x14, .int 0]))]) F hP hD hS hin 0 rfl inX8 tyX8 tyX8_ok nmX8 rfl 0 (by decide) kw_984 rfl rfl rfl rfl rfl (Nat.le_of_ble_eq_true rfl) rfl dX8_init_12 (fun H locs hP hD hS => ?_)
  refine lv_aload_n hx hb dX8_init_15 rfl (lv_at hl 0 rfl) ?_
  refine pt_ynew (ci := 13) (fs := [.int 0, .null, .int 0]) F hP hD hS hA inX13 tyJx4a65c tyJx4a65c_ok kw_958 kw_959 kw_64 rfl (fun j hj => by rcases (show j = 0 ∨ j = 1 ∨ j = 2 by omega) with rfl | rfl | rfl <;> rfl) (Nat.le_trans (Nat.le_of_ble_eq_true rfl) s_cb) (Nat.le_trans (Nat.le_of_ble_eq_true rfl) s_sb) dX8_init_16 (fun q16 H hP hD hS => ?_)
  replace hP : va_P D pt_cl (([] : va_W) ++ [(a, .inr (8, [.ref q5, .null])), (q5, .inr (13, [.int 0, .ref x14, .int 0])), (q16, .inr (13, [.int 0, .null, .int 0]))]) H := hP
  replace hD : va_D (va_A [(a, .inr (8, [.null, .null]))] s.heap.size) (([] : va_W) ++ [(a, .inr (8, [.ref q5, .null])), (q5, .inr (13, [.int 0, .ref x14, .int 0])), (q16, .inr (13, [.int 0, .null, .int 0]))]) := hD
  refine W.widen (k := 2) (n := 6) (Nat.le_of_ble_eq_true rfl) (Nat.le_of_ble_eq_true rfl) ?_
  refine lv_dup hx hb dX8_init_19 rfl ?_
  refine sx_callv (wc := [(q16, .inr (13, [.int 0, .null, .int 0]))]) (wr := [(a, .inr (8, [.ref q5, .null])), (q5, .inr (13, [.int 0, .ref x14, .int 0]))]) (pt_krun (n := 0) (As := []) (rest := [.ref q16, .ref a]) F (mtLI l D cA _ x13 x14 q16 ) sx_blind (sx_pre (wc := [(q16, .inr (13, [.int 0, .null, .int 0]))]) F hP hD hN hS hA [2] rfl rfl) kw_962 (Or.inl kw_960) kw_64 kw_961 rfl ⟨by decide, by decide, by decide +kernel⟩ ⟨rfl, rfl, (Nat.le_of_ble_eq_true rfl), (Nat.le_of_ble_eq_true rfl)⟩ rfl hl.1 rfl (Nat.le_of_ble_eq_true rfl) dX8_init_20 ⟨(Nat.le_trans (Nat.le_of_ble_eq_true rfl) s_cb), (Nat.le_trans (Nat.le_of_ble_eq_true rfl) s_sb)⟩) hP hD hS hA [2] [0, 1] rfl rfl rfl (by decide) (fun _ H locs _ hP hD hS => ?_)
  replace hP : va_P D pt_cl (([] : va_W) ++ [(a, .inr (8, [.ref q5, .null])), (q5, .inr (13, [.int 0, .ref x14, .int 0])), (q16, .inr (13, [.int 0, .ref x14, .int 0]))]) H := hP
  replace hD : va_D (va_A [(a, .inr (8, [.null, .null]))] s.heap.size) (([] : va_W) ++ [(a, .inr (8, [.ref q5, .null])), (q5, .inr (13, [.int 0, .ref x14, .int 0])), (q16, .inr (13, [.int 0, .ref x14, .int 0]))]) := hD
  refine W.widen (k := 2) (n := 6) (Nat.le_of_ble_eq_true rfl) (Nat.le_of_ble_eq_true rfl) ?_
  refine sx_putF (Y' := [(a, .inr (8, [.ref q5, .ref q16])), (q5, .inr (13, [.int 0, .ref x14, .int 0])), (q16, .inr (13, [.int 0, .ref x14, .int 0]))]) F hP hD hS hin 0 rfl inX8 tyX8 tyX8_ok nmX8 rfl 1 (by decide) kw_987 rfl rfl rfl rfl rfl (Nat.le_of_ble_eq_true rfl) rfl dX8_init_23 (fun H locs hP hD hS => ?_)
  exact W.vret hx hb hr (fun t ht hW => ⟨⟨(q5, q16), rfl, trivial, ⟨by rw [ht]; exact hP, hD⟩⟩, hS.F ht⟩) hS.2.2 dX8_init_26
def sw_ST (cA : Nat → ClassId) (x13 x14 : Nat) (a : Nat) (p1 : Int32) (p2 : Int32) : Unit → va_W := fun u => match u with
  | _ => [(a, .inr (10, [.int p1, .int p2, .int (-1), .ref x13, .ref x13]))]
set_option maxHeartbeats 8000000 in
set_option maxRecDepth 100000 in
theorem mtST (l : Launch) (D : va_G) (cA : Nat → ClassId) (sz x13 x14 : Nat) (a : Nat) (p1 : Int32) (p2 : Int32) : Met l yX10_init (Cond.code yX10_init cX10_init 3 none :: lw_all) ({ frames := 1, cells := 0, slots := 0, locals := 12 } : Room) (va_Pc [.ref a, .int p1, .int p2] (sx_P D cA x13 x14 sz [(a, .inr (10, [.int 0, .int 0, .int 0, .null, .null]))])) (va_Qv (fun _ : Unit => True) (sx_B D [(a, .inr (10, [.int 0, .int 0, .int 0, .null, .null]))] sz (sw_ST cA x13 x14 a p1 p2)) (va_A [(a, .inr (10, [.int 0, .int 0, .int 0, .null, .null]))] sz)) 0 0 (va_A [(a, .inr (10, [.int 0, .int 0, .int 0, .null, .null]))] sz) := by
  refine Met.ofW (cc := cX10_init) (maxL := 3) (ret := none) (by decide) rfl ?_
  intro p e s m args below meth c s₁ B hml hv
  obtain ⟨rfl, hsz, hP, hD, hK, hN⟩ := hv
  have hx := B.exec
  have hb := B.bytes
  have hr := B.returns
  have hts0 := atoms_spec (ws := (Cond.code yX10_init cX10_init 3 none :: lw_all)) B.pre
  have hown : s.vm.findClass RX10 = some m.cls := findClass_of_methodNamed B.named
  have hlocks := B.notSynchronized
  subst hsz
  have hin : meth.name = "<init>" := (name_of_methodNamed B.named B.method).1
  have F : pt_F p m c cX10_init 3 s _ RX10 D cA := ⟨⟨hx, hb, hml, hown, fun w h => hts0 w (List.mem_cons_of_mem _ h)⟩, hK⟩
  have s_cb : 0 ≤ (headSpec (Cond.code yX10_init cX10_init 3 none :: lw_all) ({ frames := 1, cells := 0, slots := 0, locals := 12 } : Room)).room.cells := (Nat.le_of_ble_eq_true rfl)
  have s_sb : 0 ≤ (headSpec (Cond.code yX10_init cX10_init 3 none :: lw_all) ({ frames := 1, cells := 0, slots := 0, locals := 12 } : Room)).room.slots := (Nat.le_of_ble_eq_true rfl)
  have hS : va_S (va_A [(a, .inr (10, [.int 0, .int 0, .int 0, .null, .null]))] s.heap.size) s.heap s.heap [] := va_S.rf
  have hA : ∀ q, s.heap.size ≤ q → (va_A [(a, .inr (10, [.int 0, .int 0, .int 0, .null, .null]))] s.heap.size) q := fun q h => Or.inr h
  replace hP : va_P D pt_cl (([] : va_W) ++ [(a, .inr (10, [.int 0, .int 0, .int 0, .null, .null]))]) s.heap := hP
  replace hD : va_D (va_A [(a, .inr (10, [.int 0, .int 0, .int 0, .null, .null]))] s.heap.size) (([] : va_W) ++ [(a, .inr (10, [.int 0, .int 0, .int 0, .null, .null]))]) := hD
  have hl := lv_entry ([.ref a, .int p1, .int p2]) (n := 3) (Nat.le_of_ble_eq_true rfl)
  rw [lg_entry_eq]
  generalize (lg_sl ([.ref a, .int p1, .int p2]) ++ List.replicate (3 - (lg_sl ([.ref a, .int p1, .int p2])).length) Slot.unset).toArray = ls at hl ⊢
  have hl : lv_has ls 3 [(0, .ref a), (1, .int p1), (2, .int p2)] := hl
  refine lv_aload_n hx hb dX10_init_0 rfl (lv_at hl 0 rfl) ?_
  refine W.objInit hx hb hown (F.1.2.2.2.2 _ kw_1051) (F.1.2.2.2.2 _ kw_89) (F.1.2.2.2.2 _ kw_90) rfl (by rw [hml]; exact hl.1) rfl dX10_init_1 (Nat.le_of_ble_eq_true rfl) (Nat.le_of_ble_eq_true rfl) ?_
  refine W.eq (g2 := F0 m 4 ls []) rfl ?_
  refine lv_aload_n hx hb dX10_init_4 rfl (lv_at hl 0 rfl) ?_
  refine lv_iconst (v := (-1)) hx hb dX10_init_5 (by decide) ?_
  refine sx_put (Y' := [(a, .inr (10, [.int 0, .int 0, .int (-1), .null, .null]))]) F hP hD hS 0 rfl inX10 tyX10 tyX10_ok nmX10 rfl 2 (by decide) kw_1060 rfl rfl rfl rfl (Nat.le_of_ble_eq_true rfl) rfl dX10_init_6 (fun H locs hP hD hS => ?_)
  refine lv_aload_n hx hb dX10_init_9 rfl (lv_at hl 0 rfl) ?_
  refine va_getsN hx hb hN.2.2.2 hS hown (F.1.2.2.2.2 _ kw_1052) (fun x h => h) dX10_init_10 ?_
  refine sx_put (Y' := [(a, .inr (10, [.int 0, .int 0, .int (-1), .ref x13, .null]))]) F hP hD hS 0 rfl inX10 tyX10 tyX10_ok nmX10 rfl 3 (by decide) kw_1063 rfl rfl rfl rfl (Nat.le_of_ble_eq_true rfl) rfl dX10_init_13 (fun H locs hP hD hS => ?_)
  refine lv_aload_n hx hb dX10_init_16 rfl (lv_at hl 0 rfl) ?_
  refine va_getsN hx hb hN.2.2.2 hS hown (F.1.2.2.2.2 _ kw_1052) (fun x h => h) dX10_init_17 ?_
  refine sx_put (Y' := [(a, .inr (10, [.int 0, .int 0, .int (-1), .ref x13, .ref x13]))]) F hP hD hS 0 rfl inX10 tyX10 tyX10_ok nmX10 rfl 4 (by decide) kw_1066 rfl rfl rfl rfl (Nat.le_of_ble_eq_true rfl) rfl dX10_init_20 (fun H locs hP hD hS => ?_)
  refine lv_aload_n hx hb dX10_init_23 rfl (lv_at hl 0 rfl) ?_
  refine lv_iload_n hx hb dX10_init_24 rfl (lv_at hl 1 rfl) ?_
  refine sx_putF (Y' := [(a, .inr (10, [.int p1, .int 0, .int (-1), .ref x13, .ref x13]))]) F hP hD hS hin 0 rfl inX10 tyX10 tyX10_ok nmX10 rfl 0 (by decide) kw_1054 rfl rfl rfl rfl rfl (Nat.le_of_ble_eq_true rfl) rfl dX10_init_25 (fun H locs hP hD hS => ?_)
  refine lv_aload_n hx hb dX10_init_28 rfl (lv_at hl 0 rfl) ?_
  refine lv_iload_n hx hb dX10_init_29 rfl (lv_at hl 2 rfl) ?_
  refine sx_putF (Y' := [(a, .inr (10, [.int p1, .int p2, .int (-1), .ref x13, .ref x13]))]) F hP hD hS hin 0 rfl inX10 tyX10 tyX10_ok nmX10 rfl 1 (by decide) kw_1057 rfl rfl rfl rfl rfl (Nat.le_of_ble_eq_true rfl) rfl dX10_init_30 (fun H locs hP hD hS => ?_)
  exact W.vret hx hb hr (fun t ht hW => ⟨⟨(), rfl, trivial, ⟨by rw [ht]; exact hP, hD⟩⟩, hS.F ht⟩) hS.2.2 dX10_init_33
def sw_TR (cA : Nat → ClassId) (x13 x14 : Nat) (a : Nat) (p1 : Int32) (p2 : Int32) (p3 : Int32) (p4 : Int32) : Unit → va_W := fun u => match u with
  | _ => [(a, .inr (11, [.int p1, .int p2, .int p3, .int p4, .ref x13, .ref x13]))]
set_option maxHeartbeats 8000000 in
set_option maxRecDepth 100000 in
theorem mtTR (l : Launch) (D : va_G) (cA : Nat → ClassId) (sz x13 x14 : Nat) (a : Nat) (p1 : Int32) (p2 : Int32) (p3 : Int32) (p4 : Int32) : Met l yX11_init (Cond.code yX11_init cX11_init 5 none :: lw_all) ({ frames := 1, cells := 0, slots := 0, locals := 12 } : Room) (va_Pc [.ref a, .int p1, .int p2, .int p3, .int p4] (sx_P D cA x13 x14 sz [(a, .inr (11, [.int 0, .int 0, .int 0, .int 0, .null, .null]))])) (va_Qv (fun _ : Unit => True) (sx_B D [(a, .inr (11, [.int 0, .int 0, .int 0, .int 0, .null, .null]))] sz (sw_TR cA x13 x14 a p1 p2 p3 p4)) (va_A [(a, .inr (11, [.int 0, .int 0, .int 0, .int 0, .null, .null]))] sz)) 0 0 (va_A [(a, .inr (11, [.int 0, .int 0, .int 0, .int 0, .null, .null]))] sz) := by
  refine Met.ofW (cc := cX11_init) (maxL := 5) (ret := none) (by decide) rfl ?_
  intro p e s m args below meth c s₁ B hml hv
  obtain ⟨rfl, hsz, hP, hD, hK, hN⟩ := hv
  have hx := B.exec
  have hb := B.bytes
  have hr := B.returns
  have hts0 := atoms_spec (ws := (Cond.code yX11_init cX11_init 5 none :: lw_all)) B.pre
  have hown : s.vm.findClass RX11 = some m.cls := findClass_of_methodNamed B.named
  have hlocks := B.notSynchronized
  subst hsz
  have hin : meth.name = "<init>" := (name_of_methodNamed B.named B.method).1
  have F : pt_F p m c cX11_init 5 s _ RX11 D cA := ⟨⟨hx, hb, hml, hown, fun w h => hts0 w (List.mem_cons_of_mem _ h)⟩, hK⟩
  have s_cb : 0 ≤ (headSpec (Cond.code yX11_init cX11_init 5 none :: lw_all) ({ frames := 1, cells := 0, slots := 0, locals := 12 } : Room)).room.cells := (Nat.le_of_ble_eq_true rfl)
  have s_sb : 0 ≤ (headSpec (Cond.code yX11_init cX11_init 5 none :: lw_all) ({ frames := 1, cells := 0, slots := 0, locals := 12 } : Room)).room.slots := (Nat.le_of_ble_eq_true rfl)
  have hS : va_S (va_A [(a, .inr (11, [.int 0, .int 0, .int 0, .int 0, .null, .null]))] s.heap.size) s.heap s.heap [] := va_S.rf
  have hA : ∀ q, s.heap.size ≤ q → (va_A [(a, .inr (11, [.int 0, .int 0, .int 0, .int 0, .null, .null]))] s.heap.size) q := fun q h => Or.inr h
  replace hP : va_P D pt_cl (([] : va_W) ++ [(a, .inr (11, [.int 0, .int 0, .int 0, .int 0, .null, .null]))]) s.heap := hP
  replace hD : va_D (va_A [(a, .inr (11, [.int 0, .int 0, .int 0, .int 0, .null, .null]))] s.heap.size) (([] : va_W) ++ [(a, .inr (11, [.int 0, .int 0, .int 0, .int 0, .null, .null]))]) := hD
  have hl := lv_entry ([.ref a, .int p1, .int p2, .int p3, .int p4]) (n := 5) (Nat.le_of_ble_eq_true rfl)
  rw [lg_entry_eq]
  generalize (lg_sl ([.ref a, .int p1, .int p2, .int p3, .int p4]) ++ List.replicate (5 - (lg_sl ([.ref a, .int p1, .int p2, .int p3, .int p4])).length) Slot.unset).toArray = ls at hl ⊢
  have hl : lv_has ls 5 [(0, .ref a), (1, .int p1), (2, .int p2), (3, .int p3), (4, .int p4)] := hl
  refine lv_aload_n hx hb dX11_init_0 rfl (lv_at hl 0 rfl) ?_
  refine W.objInit hx hb hown (F.1.2.2.2.2 _ kw_1254) (F.1.2.2.2.2 _ kw_89) (F.1.2.2.2.2 _ kw_90) rfl (by rw [hml]; exact hl.1) rfl dX11_init_1 (Nat.le_of_ble_eq_true rfl) (Nat.le_of_ble_eq_true rfl) ?_
  refine W.eq (g2 := F0 m 4 ls []) rfl ?_
  refine lv_aload_n hx hb dX11_init_4 rfl (lv_at hl 0 rfl) ?_
  refine va_getsN hx hb hN.2.2.2 hS hown (F.1.2.2.2.2 _ kw_1255) (fun x h => h) dX11_init_5 ?_
  refine sx_put (Y' := [(a, .inr (11, [.int 0, .int 0, .int 0, .int 0, .ref x13, .null]))]) F hP hD hS 0 rfl inX11 tyX11 tyX11_ok nmX11 rfl 4 (by decide) kw_1266 rfl rfl rfl rfl (Nat.le_of_ble_eq_true rfl) rfl dX11_init_8 (fun H locs hP hD hS => ?_)
  refine lv_aload_n hx hb dX11_init_11 rfl (lv_at hl 0 rfl) ?_
  refine va_getsN hx hb hN.2.2.2 hS hown (F.1.2.2.2.2 _ kw_1255) (fun x h => h) dX11_init_12 ?_
  refine sx_put (Y' := [(a, .inr (11, [.int 0, .int 0, .int 0, .int 0, .ref x13, .ref x13]))]) F hP hD hS 0 rfl inX11 tyX11 tyX11_ok nmX11 rfl 5 (by decide) kw_1269 rfl rfl rfl rfl (Nat.le_of_ble_eq_true rfl) rfl dX11_init_15 (fun H locs hP hD hS => ?_)
  refine lv_aload_n hx hb dX11_init_18 rfl (lv_at hl 0 rfl) ?_
  refine lv_iload_n hx hb dX11_init_19 rfl (lv_at hl 1 rfl) ?_
  refine sx_putF (Y' := [(a, .inr (11, [.int p1, .int 0, .int 0, .int 0, .ref x13, .ref x13]))]) F hP hD hS hin 0 rfl inX11 tyX11 tyX11_ok nmX11 rfl 0 (by decide) kw_1256 rfl rfl rfl rfl rfl (Nat.le_of_ble_eq_true rfl) rfl dX11_init_20 (fun H locs hP hD hS => ?_)
  refine lv_aload_n hx hb dX11_init_23 rfl (lv_at hl 0 rfl) ?_
  refine lv_iload_n hx hb dX11_init_24 rfl (lv_at hl 2 rfl) ?_
  refine sx_putF (Y' := [(a, .inr (11, [.int p1, .int p2, .int 0, .int 0, .ref x13, .ref x13]))]) F hP hD hS hin 0 rfl inX11 tyX11 tyX11_ok nmX11 rfl 1 (by decide) kw_1259 rfl rfl rfl rfl rfl (Nat.le_of_ble_eq_true rfl) rfl dX11_init_25 (fun H locs hP hD hS => ?_)
  refine lv_aload_n hx hb dX11_init_28 rfl (lv_at hl 0 rfl) ?_
  refine lv_iload_n hx hb dX11_init_29 rfl (lv_at hl 3 rfl) ?_
  refine sx_putF (Y' := [(a, .inr (11, [.int p1, .int p2, .int p3, .int 0, .ref x13, .ref x13]))]) F hP hD hS hin 0 rfl inX11 tyX11 tyX11_ok nmX11 rfl 2 (by decide) kw_1261 rfl rfl rfl rfl rfl (Nat.le_of_ble_eq_true rfl) rfl dX11_init_30 (fun H locs hP hD hS => ?_)
  refine lv_aload_n hx hb dX11_init_33 rfl (lv_at hl 0 rfl) ?_
  refine lv_iload hx hb dX11_init_34 (lv_at hl 4 rfl) ?_
  refine sx_putF (Y' := [(a, .inr (11, [.int p1, .int p2, .int p3, .int p4, .ref x13, .ref x13]))]) F hP hD hS hin 0 rfl inX11 tyX11 tyX11_ok nmX11 rfl 3 (by decide) kw_1263 rfl rfl rfl rfl rfl (Nat.le_of_ble_eq_true rfl) rfl dX11_init_36 (fun H locs hP hD hS => ?_)
  exact W.vret hx hb hr (fun t ht hW => ⟨⟨(), rfl, trivial, ⟨by rw [ht]; exact hP, hD⟩⟩, hS.F ht⟩) hS.2.2 dX11_init_39
def sw_RU (cA : Nat → ClassId) (x13 x14 : Nat) (a : Nat) (h : Nat) : Nat × Nat × Nat × Nat × Nat → va_W := fun u => match u with
  | (q12, q20, q27, q35, q41) => [(a, .inr (9, [.int 0, .int 0, .ref q12, .ref q20, .ref q27, .ref q35, .ref q41, .int 0, .int 0, .int 0, .ref h])), (q12, .inl (cA 0, 20, .inl (fun _ => 0))), (q20, .inl (cA 0, 20, .inl (fun _ => 0))), (q27, .inl (cA 0, 4, .inl (fun _ => 0))), (q35, .inl (cA 0, 30, .inl (fun _ => 0))), (q41, .inr (13, [.int 0, .ref x14, .int 0]))]
set_option maxHeartbeats 8000000 in
set_option maxRecDepth 100000 in
theorem mtRU (l : Launch) (D : va_G) (cA : Nat → ClassId) (sz x13 x14 : Nat) (a : Nat) (h : Nat) : Met l yX9_init (Cond.code yX9_init cX9_init 2 none :: lw_all) ({ frames := 4, cells := 5, slots := 77, locals := 72 } : Room) (va_Pc [.ref a, .ref h] (sx_P D cA x13 x14 sz [(a, .inr (9, [.int 0, .int 0, .null, .null, .null, .null, .null, .int 0, .int 0, .int 0, .null]))])) (va_Qv (fun _ : Nat × Nat × Nat × Nat × Nat => True) (sx_B D [(a, .inr (9, [.int 0, .int 0, .null, .null, .null, .null, .null, .int 0, .int 0, .int 0, .null]))] sz (sw_RU cA x13 x14 a h)) (va_A [(a, .inr (9, [.int 0, .int 0, .null, .null, .null, .null, .null, .int 0, .int 0, .int 0, .null]))] sz)) 5 77 (va_A [(a, .inr (9, [.int 0, .int 0, .null, .null, .null, .null, .null, .int 0, .int 0, .int 0, .null]))] sz) := by
  refine Met.ofW (cc := cX9_init) (maxL := 2) (ret := none) (by decide) rfl ?_
  intro p e s m args below meth c s₁ B hml hv
  obtain ⟨rfl, hsz, hP, hD, hK, hN⟩ := hv
  have hx := B.exec
  have hb := B.bytes
  have hr := B.returns
  have hts0 := atoms_spec (ws := (Cond.code yX9_init cX9_init 2 none :: lw_all)) B.pre
  have hown : s.vm.findClass RX9 = some m.cls := findClass_of_methodNamed B.named
  have hlocks := B.notSynchronized
  subst hsz
  have hin : meth.name = "<init>" := (name_of_methodNamed B.named B.method).1
  have F : pt_F p m c cX9_init 2 s _ RX9 D cA := ⟨⟨hx, hb, hml, hown, fun w h => hts0 w (List.mem_cons_of_mem _ h)⟩, hK⟩
  have s_cb : 5 ≤ (headSpec (Cond.code yX9_init cX9_init 2 none :: lw_all) ({ frames := 4, cells := 5, slots := 77, locals := 72 } : Room)).room.cells := (Nat.le_of_ble_eq_true rfl)
  have s_sb : 77 ≤ (headSpec (Cond.code yX9_init cX9_init 2 none :: lw_all) ({ frames := 4, cells := 5, slots := 77, locals := 72 } : Room)).room.slots := (Nat.le_of_ble_eq_true rfl)
  have hS : va_S (va_A [(a, .inr (9, [.int 0, .int 0, .null, .null, .null, .null, .null, .int 0, .int 0, .int 0, .null]))] s.heap.size) s.heap s.heap [] := va_S.rf
  have hA : ∀ q, s.heap.size ≤ q → (va_A [(a, .inr (9, [.int 0, .int 0, .null, .null, .null, .null, .null, .int 0, .int 0, .int 0, .null]))] s.heap.size) q := fun q h => Or.inr h
  replace hP : va_P D pt_cl (([] : va_W) ++ [(a, .inr (9, [.int 0, .int 0, .null, .null, .null, .null, .null, .int 0, .int 0, .int 0, .null]))]) s.heap := hP
  replace hD : va_D (va_A [(a, .inr (9, [.int 0, .int 0, .null, .null, .null, .null, .null, .int 0, .int 0, .int 0, .null]))] s.heap.size) (([] : va_W) ++ [(a, .inr (9, [.int 0, .int 0, .null, .null, .null, .null, .null, .int 0, .int 0, .int 0, .null]))]) := hD
  have hl := lv_entry ([.ref a, .ref h]) (n := 2) (Nat.le_of_ble_eq_true rfl)
  rw [lg_entry_eq]
  generalize (lg_sl ([.ref a, .ref h]) ++ List.replicate (2 - (lg_sl ([.ref a, .ref h])).length) Slot.unset).toArray = ls at hl ⊢
  have hl : lv_has ls 2 [(0, .ref a), (1, .ref h)] := hl
  refine lv_aload_n hx hb dX9_init_0 rfl (lv_at hl 0 rfl) ?_
  refine lv_aload_n hx hb dX9_init_1 rfl (lv_at hl 1 rfl) ?_
  refine sx_putF (Y' := [(a, .inr (9, [.int 0, .int 0, .null, .null, .null, .null, .null, .int 0, .int 0, .int 0, .ref h]))]) F hP hD hS hin 0 rfl inX9 tyX9 tyX9_ok nmX9 rfl 10 (by decide) kw_1022 rfl rfl rfl rfl rfl (Nat.le_of_ble_eq_true rfl) rfl dX9_init_2 (fun H locs hP hD hS => ?_)
  refine lv_aload_n hx hb dX9_init_5 rfl (lv_at hl 0 rfl) ?_
  refine W.objInit hx hb hown (F.1.2.2.2.2 _ kw_1000) (F.1.2.2.2.2 _ kw_89) (F.1.2.2.2.2 _ kw_90) rfl (by rw [hml]; exact hl.1) rfl dX9_init_6 (Nat.le_of_ble_eq_true rfl) (Nat.le_of_ble_eq_true rfl) ?_
  refine W.eq (g2 := F0 m 9 ls []) rfl ?_
  refine lv_aload_n hx hb dX9_init_9 rfl (lv_at hl 0 rfl) ?_
  refine lv_bipush (v := 20) hx hb dX9_init_10 (by decide) ?_
  refine pt_xnew (N := 20) F hP hD hS hA kw_128 (by decide) (by decide) (by decide) (Nat.le_trans (Nat.le_of_ble_eq_true rfl) s_cb) (Nat.le_trans (Nat.le_of_ble_eq_true rfl) s_sb) dX9_init_12 (fun q12 H hP hD hS => ?_)
  replace hP : va_P D pt_cl (([] : va_W) ++ [(a, .inr (9, [.int 0, .int 0, .null, .null, .null, .null, .null, .int 0, .int 0, .int 0, .ref h])), (q12, .inl (cA 0, 20, .inl (fun _ => 0)))]) H := hP
  replace hD : va_D (va_A [(a, .inr (9, [.int 0, .int 0, .null, .null, .null, .null, .null, .int 0, .int 0, .int 0, .null]))] s.heap.size) (([] : va_W) ++ [(a, .inr (9, [.int 0, .int 0, .null, .null, .null, .null, .null, .int 0, .int 0, .int 0, .ref h])), (q12, .inl (cA 0, 20, .inl (fun _ => 0)))]) := hD
  refine W.widen (k := 1) (n := 20) (Nat.le_of_ble_eq_true rfl) (Nat.le_of_ble_eq_true rfl) ?_
  refine sx_putF (Y' := [(a, .inr (9, [.int 0, .int 0, .ref q12, .null, .null, .null, .null, .int 0, .int 0, .int 0, .ref h])), (q12, .inl (cA 0, 20, .inl (fun _ => 0)))]) F hP hD hS hin 0 rfl inX9 tyX9 tyX9_ok nmX9 rfl 2 (by decide) kw_1007 rfl rfl rfl rfl rfl (Nat.le_of_ble_eq_true rfl) rfl dX9_init_14 (fun H locs hP hD hS => ?_)
  refine lv_aload_n hx hb dX9_init_17 rfl (lv_at hl 0 rfl) ?_
  refine lv_bipush (v := 20) hx hb dX9_init_18 (by decide) ?_
  refine pt_xnew (N := 20) F hP hD hS hA kw_128 (by decide) (by decide) (by decide) (Nat.le_trans (Nat.le_of_ble_eq_true rfl) s_cb) (Nat.le_trans (Nat.le_of_ble_eq_true rfl) s_sb) dX9_init_20 (fun q20 H hP hD hS => ?_)
  replace hP : va_P D pt_cl (([] : va_W) ++ [(a, .inr (9, [.int 0, .int 0, .ref q12, .null, .null, .null, .null, .int 0, .int 0, .int 0, .ref h])), (q12, .inl (cA 0, 20, .inl (fun _ => 0))), (q20, .inl (cA 0, 20, .inl (fun _ => 0)))]) H := hP
  replace hD : va_D (va_A [(a, .inr (9, [.int 0, .int 0, .null, .null, .null, .null, .null, .int 0, .int 0, .int 0, .null]))] s.heap.size) (([] : va_W) ++ [(a, .inr (9, [.int 0, .int 0, .ref q12, .null, .null, .null, .null, .int 0, .int 0, .int 0, .ref h])), (q12, .inl (cA 0, 20, .inl (fun _ => 0))), (q20, .inl (cA 0, 20, .inl (fun _ => 0)))]) := hD
  refine W.widen (k := 2) (n := 40) (Nat.le_of_ble_eq_true rfl) (Nat.le_of_ble_eq_true rfl) ?_
  refine sx_putF (Y' := [(a, .inr (9, [.int 0, .int 0, .ref q12, .ref q20, .null, .null, .null, .int 0, .int 0, .int 0, .ref h])), (q12, .inl (cA 0, 20, .inl (fun _ => 0))), (q20, .inl (cA 0, 20, .inl (fun _ => 0)))]) F hP hD hS hin 0 rfl inX9 tyX9 tyX9_ok nmX9 rfl 3 (by decide) kw_1009 rfl rfl rfl rfl rfl (Nat.le_of_ble_eq_true rfl) rfl dX9_init_22 (fun H locs hP hD hS => ?_)
  refine lv_aload_n hx hb dX9_init_25 rfl (lv_at hl 0 rfl) ?_
  refine lv_iconst (v := 4) hx hb dX9_init_26 (by decide) ?_
  refine pt_xnew (N := 4) F hP hD hS hA kw_128 (by decide) (by decide) (by decide) (Nat.le_trans (Nat.le_of_ble_eq_true rfl) s_cb) (Nat.le_trans (Nat.le_of_ble_eq_true rfl) s_sb) dX9_init_27 (fun q27 H hP hD hS => ?_)
  replace hP : va_P D pt_cl (([] : va_W) ++ [(a, .inr (9, [.int 0, .int 0, .ref q12, .ref q20, .null, .null, .null, .int 0, .int 0, .int 0, .ref h])), (q12, .inl (cA 0, 20, .inl (fun _ => 0))), (q20, .inl (cA 0, 20, .inl (fun _ => 0))), (q27, .inl (cA 0, 4, .inl (fun _ => 0)))]) H := hP
  replace hD : va_D (va_A [(a, .inr (9, [.int 0, .int 0, .null, .null, .null, .null, .null, .int 0, .int 0, .int 0, .null]))] s.heap.size) (([] : va_W) ++ [(a, .inr (9, [.int 0, .int 0, .ref q12, .ref q20, .null, .null, .null, .int 0, .int 0, .int 0, .ref h])), (q12, .inl (cA 0, 20, .inl (fun _ => 0))), (q20, .inl (cA 0, 20, .inl (fun _ => 0))), (q27, .inl (cA 0, 4, .inl (fun _ => 0)))]) := hD
  refine W.widen (k := 3) (n := 44) (Nat.le_of_ble_eq_true rfl) (Nat.le_of_ble_eq_true rfl) ?_
  refine sx_putF (Y' := [(a, .inr (9, [.int 0, .int 0, .ref q12, .ref q20, .ref q27, .null, .null, .int 0, .int 0, .int 0, .ref h])), (q12, .inl (cA 0, 20, .inl (fun _ => 0))), (q20, .inl (cA 0, 20, .inl (fun _ => 0))), (q27, .inl (cA 0, 4, .inl (fun _ => 0)))]) F hP hD hS hin 0 rfl inX9 tyX9 tyX9_ok nmX9 rfl 4 (by decide) kw_1011 rfl rfl rfl rfl rfl (Nat.le_of_ble_eq_true rfl) rfl dX9_init_29 (fun H locs hP hD hS => ?_)
  refine lv_aload_n hx hb dX9_init_32 rfl (lv_at hl 0 rfl) ?_
  refine lv_bipush (v := 30) hx hb dX9_init_33 (by decide) ?_
  refine pt_xnew (N := 30) F hP hD hS hA kw_128 (by decide) (by decide) (by decide) (Nat.le_trans (Nat.le_of_ble_eq_true rfl) s_cb) (Nat.le_trans (Nat.le_of_ble_eq_true rfl) s_sb) dX9_init_35 (fun q35 H hP hD hS => ?_)
  replace hP : va_P D pt_cl (([] : va_W) ++ [(a, .inr (9, [.int 0, .int 0, .ref q12, .ref q20, .ref q27, .null, .null, .int 0, .int 0, .int 0, .ref h])), (q12, .inl (cA 0, 20, .inl (fun _ => 0))), (q20, .inl (cA 0, 20, .inl (fun _ => 0))), (q27, .inl (cA 0, 4, .inl (fun _ => 0))), (q35, .inl (cA 0, 30, .inl (fun _ => 0)))]) H := hP
  replace hD : va_D (va_A [(a, .inr (9, [.int 0, .int 0, .null, .null, .null, .null, .null, .int 0, .int 0, .int 0, .null]))] s.heap.size) (([] : va_W) ++ [(a, .inr (9, [.int 0, .int 0, .ref q12, .ref q20, .ref q27, .null, .null, .int 0, .int 0, .int 0, .ref h])), (q12, .inl (cA 0, 20, .inl (fun _ => 0))), (q20, .inl (cA 0, 20, .inl (fun _ => 0))), (q27, .inl (cA 0, 4, .inl (fun _ => 0))), (q35, .inl (cA 0, 30, .inl (fun _ => 0)))]) := hD
  refine W.widen (k := 4) (n := 74) (Nat.le_of_ble_eq_true rfl) (Nat.le_of_ble_eq_true rfl) ?_
  refine sx_putF (Y' := [(a, .inr (9, [.int 0, .int 0, .ref q12, .ref q20, .ref q27, .ref q35, .null, .int 0, .int 0, .int 0, .ref h])), (q12, .inl (cA 0, 20, .inl (fun _ => 0))), (q20, .inl (cA 0, 20, .inl (fun _ => 0))), (q27, .inl (cA 0, 4, .inl (fun _ => 0))), (q35, .inl (cA 0, 30, .inl (fun _ => 0)))]) F hP hD hS hin 0 rfl inX9 tyX9 tyX9_ok nmX9 rfl 5 (by decide) kw_1013 rfl rfl rfl rfl rfl (Nat.le_of_ble_eq_true rfl) rfl dX9_init_37 (fun H locs hP hD hS => ?_)
  refine lv_aload_n hx hb dX9_init_40 rfl (lv_at hl 0 rfl) ?_
  refine pt_ynew (ci := 13) (fs := [.int 0, .null, .int 0]) F hP hD hS hA inX13 tyJx4a65c tyJx4a65c_ok kw_1001 kw_959 kw_64 rfl (fun j hj => by rcases (show j = 0 ∨ j = 1 ∨ j = 2 by omega) with rfl | rfl | rfl <;> rfl) (Nat.le_trans (Nat.le_of_ble_eq_true rfl) s_cb) (Nat.le_trans (Nat.le_of_ble_eq_true rfl) s_sb) dX9_init_41 (fun q41 H hP hD hS => ?_)
  replace hP : va_P D pt_cl (([] : va_W) ++ [(a, .inr (9, [.int 0, .int 0, .ref q12, .ref q20, .ref q27, .ref q35, .null, .int 0, .int 0, .int 0, .ref h])), (q12, .inl (cA 0, 20, .inl (fun _ => 0))), (q20, .inl (cA 0, 20, .inl (fun _ => 0))), (q27, .inl (cA 0, 4, .inl (fun _ => 0))), (q35, .inl (cA 0, 30, .inl (fun _ => 0))), (q41, .inr (13, [.int 0, .null, .int 0]))]) H := hP
  replace hD : va_D (va_A [(a, .inr (9, [.int 0, .int 0, .null, .null, .null, .null, .null, .int 0, .int 0, .int 0, .null]))] s.heap.size) (([] : va_W) ++ [(a, .inr (9, [.int 0, .int 0, .ref q12, .ref q20, .ref q27, .ref q35, .null, .int 0, .int 0, .int 0, .ref h])), (q12, .inl (cA 0, 20, .inl (fun _ => 0))), (q20, .inl (cA 0, 20, .inl (fun _ => 0))), (q27, .inl (cA 0, 4, .inl (fun _ => 0))), (q35, .inl (cA 0, 30, .inl (fun _ => 0))), (q41, .inr (13, [.int 0, .null, .int 0]))]) := hD
  refine W.widen (k := 5) (n := 77) (Nat.le_of_ble_eq_true rfl) (Nat.le_of_ble_eq_true rfl) ?_
  refine lv_dup hx hb dX9_init_44 rfl ?_
  refine sx_callv (wc := [(q41, .inr (13, [.int 0, .null, .int 0]))]) (wr := [(a, .inr (9, [.int 0, .int 0, .ref q12, .ref q20, .ref q27, .ref q35, .null, .int 0, .int 0, .int 0, .ref h])), (q12, .inl (cA 0, 20, .inl (fun _ => 0))), (q20, .inl (cA 0, 20, .inl (fun _ => 0))), (q27, .inl (cA 0, 4, .inl (fun _ => 0))), (q35, .inl (cA 0, 30, .inl (fun _ => 0)))]) (pt_krun (n := 0) (As := []) (rest := [.ref q41, .ref a]) F (mtLI l D cA _ x13 x14 q41 ) sx_blind (sx_pre (wc := [(q41, .inr (13, [.int 0, .null, .int 0]))]) F hP hD hN hS hA [5] rfl rfl) kw_962 (Or.inl kw_1002) kw_64 kw_961 rfl ⟨by decide, by decide, by decide +kernel⟩ ⟨rfl, rfl, (Nat.le_of_ble_eq_true rfl), (Nat.le_of_ble_eq_true rfl)⟩ rfl hl.1 rfl (Nat.le_of_ble_eq_true rfl) dX9_init_45 ⟨(Nat.le_trans (Nat.le_of_ble_eq_true rfl) s_cb), (Nat.le_trans (Nat.le_of_ble_eq_true rfl) s_sb)⟩) hP hD hS hA [5] [0, 1, 2, 3, 4] rfl rfl rfl (by decide) (fun _ H locs _ hP hD hS => ?_)
  replace hP : va_P D pt_cl (([] : va_W) ++ [(a, .inr (9, [.int 0, .int 0, .ref q12, .ref q20, .ref q27, .ref q35, .null, .int 0, .int 0, .int 0, .ref h])), (q12, .inl (cA 0, 20, .inl (fun _ => 0))), (q20, .inl (cA 0, 20, .inl (fun _ => 0))), (q27, .inl (cA 0, 4, .inl (fun _ => 0))), (q35, .inl (cA 0, 30, .inl (fun _ => 0))), (q41, .inr (13, [.int 0, .ref x14, .int 0]))]) H := hP
  replace hD : va_D (va_A [(a, .inr (9, [.int 0, .int 0, .null, .null, .null, .null, .null, .int 0, .int 0, .int 0, .null]))] s.heap.size) (([] : va_W) ++ [(a, .inr (9, [.int 0, .int 0, .ref q12, .ref q20, .ref q27, .ref q35, .null, .int 0, .int 0, .int 0, .ref h])), (q12, .inl (cA 0, 20, .inl (fun _ => 0))), (q20, .inl (cA 0, 20, .inl (fun _ => 0))), (q27, .inl (cA 0, 4, .inl (fun _ => 0))), (q35, .inl (cA 0, 30, .inl (fun _ => 0))), (q41, .inr (13, [.int 0, .ref x14, .int 0]))]) := hD
  refine W.widen (k := 5) (n := 77) (Nat.le_of_ble_eq_true rfl) (Nat.le_of_ble_eq_true rfl) ?_
  refine sx_put (Y' := [(a, .inr (9, [.int 0, .int 0, .ref q12, .ref q20, .ref q27, .ref q35, .ref q41, .int 0, .int 0, .int 0, .ref h])), (q12, .inl (cA 0, 20, .inl (fun _ => 0))), (q20, .inl (cA 0, 20, .inl (fun _ => 0))), (q27, .inl (cA 0, 4, .inl (fun _ => 0))), (q35, .inl (cA 0, 30, .inl (fun _ => 0))), (q41, .inr (13, [.int 0, .ref x14, .int 0]))]) F hP hD hS 0 rfl inX9 tyX9 tyX9_ok nmX9 rfl 6 (by decide) kw_1015 rfl rfl rfl rfl (Nat.le_of_ble_eq_true rfl) rfl dX9_init_48 (fun H locs hP hD hS => ?_)
  exact W.vret hx hb hr (fun t ht hW => ⟨⟨(q12, q20, q27, q35, q41), rfl, trivial, ⟨by rw [ht]; exact hP, hD⟩⟩, hS.F ht⟩) hS.2.2 dX9_init_51
def sw_GI (cA : Nat → ClassId) (x13 x14 : Nat) (q : Nat) (k : Int32) : Nat → va_W := fun u => match u with
  | q52 => [(q, .inr (13, [.int k, .ref q52, .int 0])), (q52, .inl (cA 4, 10, .inr (.inr (.inr (.inr (fun _ => none))))))]
set_option maxHeartbeats 8000000 in
set_option maxRecDepth 100000 in
theorem mtGI (l : Launch) (D : va_G) (cA : Nat → ClassId) (sz x13 x14 : Nat) (q : Nat) (k : Int32) : Met l yJx4a65c_grow_92f84 (Cond.code yJx4a65c_grow_92f84 cJx4a65c_grow_92f84 4 (some (.array (.object "java/lang/Object"))) :: lw_all) ({ frames := 1, cells := 1, slots := 10, locals := 21 } : Room) (va_Pc [.ref q, .int 1] (sx_P D cA x13 x14 sz [(q, .inr (13, [.int k, .ref x14, .int 0]))])) (va_Qr (fun _ : Nat => True) (fun (u : Nat) q t => q = (match u with | q52 => q52) ∧ (sx_B D [(q, .inr (13, [.int k, .ref x14, .int 0]))] sz (sw_GI cA x13 x14 q k)) u t) (va_A [(q, .inr (13, [.int k, .ref x14, .int 0]))] sz)) 1 10 (va_A [(q, .inr (13, [.int k, .ref x14, .int 0]))] sz) := by
  refine Met.ofW (cc := cJx4a65c_grow_92f84) (maxL := 4) (ret := (some (.array (.object "java/lang/Object")))) (by decide) rfl ?_
  intro p e s m args below meth c s₁ B hml hv
  obtain ⟨rfl, hsz, hP, hD, hK, hN⟩ := hv
  have hx := B.exec
  have hb := B.bytes
  have hr := B.returns
  have hts0 := atoms_spec (ws := (Cond.code yJx4a65c_grow_92f84 cJx4a65c_grow_92f84 4 (some (.array (.object "java/lang/Object"))) :: lw_all)) B.pre
  have hown : s.vm.findClass RJx4a65c = some m.cls := findClass_of_methodNamed B.named
  have hlocks := B.notSynchronized
  subst hsz
  have F : pt_F p m c cJx4a65c_grow_92f84 4 s _ RJx4a65c D cA := ⟨⟨hx, hb, hml, hown, fun w h => hts0 w (List.mem_cons_of_mem _ h)⟩, hK⟩
  have s_cb : 1 ≤ (headSpec (Cond.code yJx4a65c_grow_92f84 cJx4a65c_grow_92f84 4 (some (.array (.object "java/lang/Object"))) :: lw_all) ({ frames := 1, cells := 1, slots := 10, locals := 21 } : Room)).room.cells := (Nat.le_of_ble_eq_true rfl)
  have s_sb : 10 ≤ (headSpec (Cond.code yJx4a65c_grow_92f84 cJx4a65c_grow_92f84 4 (some (.array (.object "java/lang/Object"))) :: lw_all) ({ frames := 1, cells := 1, slots := 10, locals := 21 } : Room)).room.slots := (Nat.le_of_ble_eq_true rfl)
  have hS : va_S (va_A [(q, .inr (13, [.int k, .ref x14, .int 0]))] s.heap.size) s.heap s.heap [] := va_S.rf
  have hA : ∀ q, s.heap.size ≤ q → (va_A [(q, .inr (13, [.int k, .ref x14, .int 0]))] s.heap.size) q := fun q h => Or.inr h
  replace hP : va_P D pt_cl (([] : va_W) ++ [(q, .inr (13, [.int k, .ref x14, .int 0]))]) s.heap := hP
  replace hD : va_D (va_A [(q, .inr (13, [.int k, .ref x14, .int 0]))] s.heap.size) (([] : va_W) ++ [(q, .inr (13, [.int k, .ref x14, .int 0]))]) := hD
  have hl := lv_entry ([.ref q, .int 1]) (n := 4) (Nat.le_of_ble_eq_true rfl)
  rw [lg_entry_eq]
  generalize (lg_sl ([.ref q, .int 1]) ++ List.replicate (4 - (lg_sl ([.ref q, .int 1])).length) Slot.unset).toArray = ls at hl ⊢
  have hl : lv_has ls 4 [(0, .ref q), (1, .int 1)] := hl
  refine lv_aload_n hx hb dJx4a65c_grow_92f84_0 rfl (lv_at hl 0 rfl) ?_
  refine sx_get F hP 0 rfl inX13 rfl 1 (by decide) kw_972 rfl rfl dJx4a65c_grow_92f84_1 ?_
  refine va_tlen hx hb hN.2.1 hS (v := 0) rfl dJx4a65c_grow_92f84_4 ?_
  refine lv_istore_n (lv' := [(2, .int 0), (0, .ref q), (1, .int 1)]) hx hb dJx4a65c_grow_92f84_5 rfl hl (by decide) rfl (fun ls hl => ?_)
  refine lv_iload_n hx hb dJx4a65c_grow_92f84_6 rfl (lv_at hl 0 rfl) ?_
  refine lv_if_gt (tgt := 20) hx hb dJx4a65c_grow_92f84_7 (by decide) (fun hc => absurd hc (by decide)) (fun hc => ?_)
  refine lv_aload_n hx hb dJx4a65c_grow_92f84_10 rfl (lv_at hl 1 rfl) ?_
  refine sx_get F hP 0 rfl inX13 rfl 1 (by decide) kw_972 rfl rfl dJx4a65c_grow_92f84_11 ?_
  refine va_gets hx hb hN.2.2.1 hS hown (F.1.2.2.2.2 _ kw_970) (fun x h => h) dJx4a65c_grow_92f84_14 ?_
  refine lv_acmp_eq (rx := some x14) (ry := some x14) (tgt := 45) hx hb dJx4a65c_grow_92f84_17 (by decide) (fun hc => ?_) (fun hc => absurd rfl hc)
  refine lv_aload_n hx hb dJx4a65c_grow_92f84_45 rfl (lv_at hl 1 rfl) ?_
  refine lv_bipush (v := 10) hx hb dJx4a65c_grow_92f84_46 (by decide) ?_
  refine lv_iload_n hx hb dJx4a65c_grow_92f84_48 rfl (lv_at hl 2 rfl) ?_
  refine va_mmax hx hb (hml.trans hl.1.symm) hown (F.1.2.2.2.2 _ kw_1137) (F.1.2.2.2.2 _ kw_738) (F.1.2.2.2.2 _ kw_68) (F.1.2.2.2.2 _ kw_739) (Nat.le_of_ble_eq_true rfl) (Nat.le_of_ble_eq_true rfl) (Nat.zero_le _) (Nat.zero_le _) dJx4a65c_grow_92f84_49 ?_
  refine W.eq (g2 := F0 m 52 ls [.int 10, .ref q]) (by rfl) ?_
  refine pt_ynewq (N := 10) F hP hD hS hA 4 rfl kw_1138 kw_1133 (by decide) (by decide) (by decide) (Nat.le_trans (Nat.le_of_ble_eq_true rfl) s_cb) (Nat.le_trans (Nat.le_of_ble_eq_true rfl) s_sb) dJx4a65c_grow_92f84_52 (fun q52 H hP hD hS => ?_)
  replace hP : va_P D pt_cl (([] : va_W) ++ [(q, .inr (13, [.int k, .ref x14, .int 0])), (q52, .inl (cA 4, 10, .inr (.inr (.inr (.inr (fun _ => none))))))]) H := hP
  replace hD : va_D (va_A [(q, .inr (13, [.int k, .ref x14, .int 0]))] s.heap.size) (([] : va_W) ++ [(q, .inr (13, [.int k, .ref x14, .int 0])), (q52, .inl (cA 4, 10, .inr (.inr (.inr (.inr (fun _ => none))))))]) := hD
  refine W.widen (k := 1) (n := 10) (Nat.le_of_ble_eq_true rfl) (Nat.le_of_ble_eq_true rfl) ?_
  refine lv_dup_x1 hx hb dJx4a65c_grow_92f84_55 rfl rfl ?_
  refine sx_put (Y' := [(q, .inr (13, [.int k, .ref q52, .int 0])), (q52, .inl (cA 4, 10, .inr (.inr (.inr (.inr (fun _ => none))))))]) F hP hD hS 0 rfl inX13 tyJx4a65c tyJx4a65c_ok nmJx4a65c rfl 1 (by decide) kw_972 rfl rfl rfl rfl (Nat.le_of_ble_eq_true rfl) rfl dJx4a65c_grow_92f84_56 (fun H locs hP hD hS => ?_)
  exact W.aret (v := .ref q52) hx hb hr (Or.inr ⟨_, rfl⟩) (Or.inr ⟨_, rfl⟩) (fun t ht hW => ⟨⟨q52, q52, rfl, trivial, rfl, ⟨by rw [ht]; exact hP, hD⟩⟩, hS.F ht⟩) hS.2.2 dJx4a65c_grow_92f84_59
def sw_G0 (cA : Nat → ClassId) (x13 x14 : Nat) (q : Nat) (k : Int32) : Nat → va_W := fun u => match u with
  | q52_7 => [(q, .inr (13, [.int k, .ref q52_7, .int 0])), (q52_7, .inl (cA 4, 10, .inr (.inr (.inr (.inr (fun _ => none))))))]
set_option maxHeartbeats 8000000 in
set_option maxRecDepth 100000 in
theorem mtG0 (l : Launch) (D : va_G) (cA : Nat → ClassId) (sz x13 x14 : Nat) (q : Nat) (k : Int32) : Met l yJx4a65c_grow_d5877 (Cond.code yJx4a65c_grow_d5877 cJx4a65c_grow_d5877 1 (some (.array (.object "java/lang/Object"))) :: lw_all) ({ frames := 2, cells := 1, slots := 10, locals := 44 } : Room) (va_Pc [.ref q] (sx_P D cA x13 x14 sz [(q, .inr (13, [.int k, .ref x14, .int 0]))])) (va_Qr (fun _ : Nat => True) (fun (u : Nat) q t => q = (match u with | q52_7 => q52_7) ∧ (sx_B D [(q, .inr (13, [.int k, .ref x14, .int 0]))] sz (sw_G0 cA x13 x14 q k)) u t) (va_A [(q, .inr (13, [.int k, .ref x14, .int 0]))] sz)) 1 10 (va_A [(q, .inr (13, [.int k, .ref x14, .int 0]))] sz) := by
  refine Met.ofW (cc := cJx4a65c_grow_d5877) (maxL := 1) (ret := (some (.array (.object "java/lang/Object")))) (by decide) rfl ?_
  intro p e s m args below meth c s₁ B hml hv
  obtain ⟨rfl, hsz, hP, hD, hK, hN⟩ := hv
  have hx := B.exec
  have hb := B.bytes
  have hr := B.returns
  have hts0 := atoms_spec (ws := (Cond.code yJx4a65c_grow_d5877 cJx4a65c_grow_d5877 1 (some (.array (.object "java/lang/Object"))) :: lw_all)) B.pre
  have hown : s.vm.findClass RJx4a65c = some m.cls := findClass_of_methodNamed B.named
  have hlocks := B.notSynchronized
  subst hsz
  have F : pt_F p m c cJx4a65c_grow_d5877 1 s _ RJx4a65c D cA := ⟨⟨hx, hb, hml, hown, fun w h => hts0 w (List.mem_cons_of_mem _ h)⟩, hK⟩
  have s_cb : 1 ≤ (headSpec (Cond.code yJx4a65c_grow_d5877 cJx4a65c_grow_d5877 1 (some (.array (.object "java/lang/Object"))) :: lw_all) ({ frames := 2, cells := 1, slots := 10, locals := 44 } : Room)).room.cells := (Nat.le_of_ble_eq_true rfl)
  have s_sb : 10 ≤ (headSpec (Cond.code yJx4a65c_grow_d5877 cJx4a65c_grow_d5877 1 (some (.array (.object "java/lang/Object"))) :: lw_all) ({ frames := 2, cells := 1, slots := 10, locals := 44 } : Room)).room.slots := (Nat.le_of_ble_eq_true rfl)
  have hS : va_S (va_A [(q, .inr (13, [.int k, .ref x14, .int 0]))] s.heap.size) s.heap s.heap [] := va_S.rf
  have hA : ∀ q, s.heap.size ≤ q → (va_A [(q, .inr (13, [.int k, .ref x14, .int 0]))] s.heap.size) q := fun q h => Or.inr h
  replace hP : va_P D pt_cl (([] : va_W) ++ [(q, .inr (13, [.int k, .ref x14, .int 0]))]) s.heap := hP
  replace hD : va_D (va_A [(q, .inr (13, [.int k, .ref x14, .int 0]))] s.heap.size) (([] : va_W) ++ [(q, .inr (13, [.int k, .ref x14, .int 0]))]) := hD
  have hl := lv_entry ([.ref q]) (n := 1) (Nat.le_of_ble_eq_true rfl)
  rw [lg_entry_eq]
  generalize (lg_sl ([.ref q]) ++ List.replicate (1 - (lg_sl ([.ref q])).length) Slot.unset).toArray = ls at hl ⊢
  have hl : lv_has ls 1 [(0, .ref q)] := hl
  refine lv_aload_n hx hb dJx4a65c_grow_d5877_0 rfl (lv_at hl 0 rfl) ?_
  refine lv_aload_n hx hb dJx4a65c_grow_d5877_1 rfl (lv_at hl 0 rfl) ?_
  refine sx_get F hP 0 rfl inX13 rfl 2 (by decide) kw_973 rfl rfl dJx4a65c_grow_d5877_2 ?_
  refine lv_iconst (v := 1) hx hb dJx4a65c_grow_d5877_5 (by decide) ?_
  refine lv_iadd hx hb dJx4a65c_grow_d5877_6 ?_
  refine sx_callr (wc := [(q, .inr (13, [.int k, .ref x14, .int 0]))]) (wr := []) (sx_runV (n := 1) (As := [.int (0 + 1)]) (rest := []) F hP 0 rfl rfl (mtGI l D cA _ x13 x14 q k ) sx_blind (sx_pre (wc := [(q, .inr (13, [.int k, .ref x14, .int 0]))]) F hP hD hN hS hA [0] rfl rfl) kw_1095 kw_1092 kw_64 kw_1094 kw_27 ⟨by decide, by decide, by decide +kernel⟩ ⟨rfl, rfl, (Nat.le_of_ble_eq_true rfl), (Nat.le_of_ble_eq_true rfl)⟩ rfl hl.1 rfl (Nat.le_of_ble_eq_true rfl) dJx4a65c_grow_d5877_7 ⟨(Nat.le_trans (Nat.le_of_ble_eq_true rfl) s_cb), (Nat.le_trans (Nat.le_of_ble_eq_true rfl) s_sb)⟩) hP hD hS hA [0] [] rfl rfl rfl (by decide) (fun q52_7 H locs _ hP hD hS => ?_)
  replace hP : va_P D pt_cl (([] : va_W) ++ [(q, .inr (13, [.int k, .ref q52_7, .int 0])), (q52_7, .inl (cA 4, 10, .inr (.inr (.inr (.inr (fun _ => none))))))]) H := hP
  replace hD : va_D (va_A [(q, .inr (13, [.int k, .ref x14, .int 0]))] s.heap.size) (([] : va_W) ++ [(q, .inr (13, [.int k, .ref q52_7, .int 0])), (q52_7, .inl (cA 4, 10, .inr (.inr (.inr (.inr (fun _ => none))))))]) := hD
  refine W.widen (k := 1) (n := 10) (Nat.le_of_ble_eq_true rfl) (Nat.le_of_ble_eq_true rfl) ?_
  exact W.aret (v := .ref q52_7) hx hb hr (Or.inr ⟨_, rfl⟩) (Or.inr ⟨_, rfl⟩) (fun t ht hW => ⟨⟨q52_7, q52_7, rfl, trivial, rfl, ⟨by rw [ht]; exact hP, hD⟩⟩, hS.F ht⟩) hS.2.2 dJx4a65c_grow_d5877_10
def sw_A3f (cA : Nat → ClassId) (x13 x14 : Nat) (q : Nat) (v : Nat) (k : Int32) (ci : Nat) (vs : List Value) : Nat → va_W := fun u => match u with
  | q52_7_7 => [(v, .inr (ci, vs)), (q, .inr (13, [.int k, .ref q52_7_7, .int (0 + 1)])), (q52_7_7, .inl (cA 4, 10, .inr (.inr (.inr (.inr (fun i => if i = 0 then some v else none))))))]
set_option maxHeartbeats 8000000 in
set_option maxRecDepth 100000 in
theorem mtA3f (l : Launch) (D : va_G) (cA : Nat → ClassId) (sz x13 x14 : Nat) (q : Nat) (v : Nat) (k : Int32) (ci : Nat) (vs : List Value) {rr : vw_C} (hc : pt_cl[ci]? = some rr) (hca : Cond.castable rr.1 "java/lang/Object" ∈ lw_all) : Met l yJx4a65c_add_72be8 (Cond.code yJx4a65c_add_72be8 cJx4a65c_add_72be8 4 none :: lw_all) ({ frames := 3, cells := 1, slots := 10, locals := 64 } : Room) (va_Pc [.ref q, .ref v, .ref x14, .int 0] (sx_P D cA x13 x14 sz [(q, .inr (13, [.int k, .ref x14, .int 0])), (v, .inr (ci, vs))])) (va_Qv (fun _ : Nat => True) (sx_B D [(q, .inr (13, [.int k, .ref x14, .int 0])), (v, .inr (ci, vs))] sz (sw_A3f cA x13 x14 q v k ci vs)) (va_A [(q, .inr (13, [.int k, .ref x14, .int 0])), (v, .inr (ci, vs))] sz)) 1 10 (va_A [(q, .inr (13, [.int k, .ref x14, .int 0])), (v, .inr (ci, vs))] sz) := by
  refine Met.ofW (cc := cJx4a65c_add_72be8) (maxL := 4) (ret := none) (by decide) rfl ?_
  intro p e s m args below meth c s₁ B hml hv
  obtain ⟨rfl, hsz, hP, hD, hK, hN⟩ := hv
  have hx := B.exec
  have hb := B.bytes
  have hr := B.returns
  have hts0 := atoms_spec (ws := (Cond.code yJx4a65c_add_72be8 cJx4a65c_add_72be8 4 none :: lw_all)) B.pre
  have hown : s.vm.findClass RJx4a65c = some m.cls := findClass_of_methodNamed B.named
  have hlocks := B.notSynchronized
  subst hsz
  have F : pt_F p m c cJx4a65c_add_72be8 4 s _ RJx4a65c D cA := ⟨⟨hx, hb, hml, hown, fun w h => hts0 w (List.mem_cons_of_mem _ h)⟩, hK⟩
  have s_cb : 1 ≤ (headSpec (Cond.code yJx4a65c_add_72be8 cJx4a65c_add_72be8 4 none :: lw_all) ({ frames := 3, cells := 1, slots := 10, locals := 64 } : Room)).room.cells := (Nat.le_of_ble_eq_true rfl)
  have s_sb : 10 ≤ (headSpec (Cond.code yJx4a65c_add_72be8 cJx4a65c_add_72be8 4 none :: lw_all) ({ frames := 3, cells := 1, slots := 10, locals := 64 } : Room)).room.slots := (Nat.le_of_ble_eq_true rfl)
  have hS : va_S (va_A [(q, .inr (13, [.int k, .ref x14, .int 0])), (v, .inr (ci, vs))] s.heap.size) s.heap s.heap [] := va_S.rf
  have hA : ∀ q, s.heap.size ≤ q → (va_A [(q, .inr (13, [.int k, .ref x14, .int 0])), (v, .inr (ci, vs))] s.heap.size) q := fun q h => Or.inr h
  replace hP : va_P D pt_cl (([] : va_W) ++ [(q, .inr (13, [.int k, .ref x14, .int 0])), (v, .inr (ci, vs))]) s.heap := hP
  replace hD : va_D (va_A [(q, .inr (13, [.int k, .ref x14, .int 0])), (v, .inr (ci, vs))] s.heap.size) (([] : va_W) ++ [(q, .inr (13, [.int k, .ref x14, .int 0])), (v, .inr (ci, vs))]) := hD
  have hl := lv_entry ([.ref q, .ref v, .ref x14, .int 0]) (n := 4) (Nat.le_of_ble_eq_true rfl)
  rw [lg_entry_eq]
  generalize (lg_sl ([.ref q, .ref v, .ref x14, .int 0]) ++ List.replicate (4 - (lg_sl ([.ref q, .ref v, .ref x14, .int 0])).length) Slot.unset).toArray = ls at hl ⊢
  have hl : lv_has ls 4 [(0, .ref q), (1, .ref v), (2, .ref x14), (3, .int 0)] := hl
  refine lv_iload_n hx hb dJx4a65c_add_72be8_0 rfl (lv_at hl 3 rfl) ?_
  refine lv_aload_n hx hb dJx4a65c_add_72be8_1 rfl (lv_at hl 2 rfl) ?_
  refine va_tlen hx hb hN.2.1 hS (v := 0) rfl dJx4a65c_add_72be8_2 ?_
  refine lv_icmp_ne (tgt := 11) hx hb dJx4a65c_add_72be8_3 (by decide) (fun hc => absurd rfl hc) (fun hc => ?_)
  refine lv_aload_n hx hb dJx4a65c_add_72be8_6 rfl (lv_at hl 0 rfl) ?_
  refine sx_callr (wc := [(q, .inr (13, [.int k, .ref x14, .int 0]))]) (wr := [(v, .inr (ci, vs))]) (sx_runV (n := 0) (As := []) (rest := []) F hP 0 rfl rfl (mtG0 l D cA _ x13 x14 q k ) sx_blind (sx_pre (wc := [(q, .inr (13, [.int k, .ref x14, .int 0]))]) F hP hD hN hS hA [0] rfl rfl) kw_1091 kw_1088 kw_64 kw_1090 kw_26 ⟨by decide, by decide, by decide +kernel⟩ ⟨rfl, rfl, (Nat.le_of_ble_eq_true rfl), (Nat.le_of_ble_eq_true rfl)⟩ rfl hl.1 rfl (Nat.le_of_ble_eq_true rfl) dJx4a65c_add_72be8_7 ⟨(Nat.le_trans (Nat.le_of_ble_eq_true rfl) s_cb), (Nat.le_trans (Nat.le_of_ble_eq_true rfl) s_sb)⟩) hP hD hS hA [0] [1] rfl rfl rfl (by decide) (fun q52_7_7 H locs _ hP hD hS => ?_)
  replace hP : va_P D pt_cl (([] : va_W) ++ [(v, .inr (ci, vs)), (q, .inr (13, [.int k, .ref q52_7_7, .int 0])), (q52_7_7, .inl (cA 4, 10, .inr (.inr (.inr (.inr (fun _ => none))))))]) H := hP
  replace hD : va_D (va_A [(q, .inr (13, [.int k, .ref x14, .int 0])), (v, .inr (ci, vs))] s.heap.size) (([] : va_W) ++ [(v, .inr (ci, vs)), (q, .inr (13, [.int k, .ref q52_7_7, .int 0])), (q52_7_7, .inl (cA 4, 10, .inr (.inr (.inr (.inr (fun _ => none))))))]) := hD
  refine W.widen (k := 1) (n := 10) (Nat.le_of_ble_eq_true rfl) (Nat.le_of_ble_eq_true rfl) ?_
  refine lv_astore_n (lv' := [(2, .ref q52_7_7), (0, .ref q), (1, .ref v), (3, .int 0)]) hx hb dJx4a65c_add_72be8_10 rfl hl (by decide) rfl (fun ls hl => ?_)
  refine lv_aload_n hx hb dJx4a65c_add_72be8_11 rfl (lv_at hl 0 rfl) ?_
  refine lv_iload_n hx hb dJx4a65c_add_72be8_12 rfl (lv_at hl 3 rfl) ?_
  refine lv_aload_n hx hb dJx4a65c_add_72be8_13 rfl (lv_at hl 2 rfl) ?_
  refine sx_yastO (Y' := [(v, .inr (ci, vs)), (q, .inr (13, [.int k, .ref q52_7_7, .int 0])), (q52_7_7, .inl (cA 4, 10, .inr (.inr (.inr (.inr (fun i => if i = 0 then some v else none))))))]) F hP hD hS 2 0 rfl rfl hc hca (show vp_in 0 10 from by unfold vp_in; decide) dJx4a65c_add_72be8_14 rfl (fun H locs hP hD hS => ?_)
  refine lv_aload_n hx hb dJx4a65c_add_72be8_15 rfl (lv_at hl 1 rfl) ?_
  refine lv_iload_n hx hb dJx4a65c_add_72be8_16 rfl (lv_at hl 3 rfl) ?_
  refine lv_iconst (v := 1) hx hb dJx4a65c_add_72be8_17 (by decide) ?_
  refine lv_iadd hx hb dJx4a65c_add_72be8_18 ?_
  refine sx_put (Y' := [(v, .inr (ci, vs)), (q, .inr (13, [.int k, .ref q52_7_7, .int (0 + 1)])), (q52_7_7, .inl (cA 4, 10, .inr (.inr (.inr (.inr (fun i => if i = 0 then some v else none))))))]) F hP hD hS 1 rfl inX13 tyJx4a65c tyJx4a65c_ok nmJx4a65c rfl 2 (by decide) kw_973 rfl rfl rfl rfl (Nat.le_of_ble_eq_true rfl) rfl dJx4a65c_add_72be8_19 (fun H locs hP hD hS => ?_)
  exact W.vret hx hb hr (fun t ht hW => ⟨⟨q52_7_7, rfl, trivial, ⟨by rw [ht]; exact hP, hD⟩⟩, hS.F ht⟩) hS.2.2 dJx4a65c_add_72be8_22
def sw_A1f (cA : Nat → ClassId) (x13 x14 : Nat) (q : Nat) (v : Nat) (k : Int32) (ci : Nat) (vs : List Value) : Nat → va_W := fun u => match u with
  | q52_7_7_20 => [(v, .inr (ci, [v, s])), (q, .inr (13, [.int (k + 1), .ref q52_7_7_20, .int (0 + 1)])), (q52_7_7_20, .inl (cA 4, 10, .inr (.inr (.inr (.inr (fun i => if i = 0 then some v else none))))))]
set_option maxHeartbeats 8000000 in
set_option maxRecDepth 100000 in
theorem mtA1f (l : Launch) (D : va_G) (cA : Nat → ClassId) (sz x13 x14 : Nat) (q : Nat) (v : Nat) (k : Int32) (ci : Nat) (vs : List Value) {rr : vw_C} (hc : pt_cl[ci]? = some rr) (hca : Cond.castable rr.1 "java/lang/Object" ∈ lw_all) : Met l yJx4a65c_add_9ea2d (Cond.code yJx4a65c_add_9ea2d cJx4a65c_add_9ea2d 2 (some .boolean) :: lw_all) ({ frames := 4, cells := 1, slots := 10, locals := 87 } : Room) (va_Pc [.ref q, .ref v] (sx_P D cA x13 x14 sz [(q, .inr (13, [.int k, .ref x14, .int 0])), (v, .inr (ci, vs))])) (va_Qi (fun (r : Int32) (_ : Nat) => r = 1) (sx_B D [(q, .inr (13, [.int k, .ref x14, .int 0])), (v, .inr (ci, vs))] sz (sw_A1f cA x13 x14 q v k ci vs)) (va_A [(q, .inr (13, [.int k, .ref x14, .int 0])), (v, .inr (ci, vs))] sz)) 1 10 (va_A [(q, .inr (13, [.int k, .ref x14, .int 0])), (v, .inr (ci, vs))] sz) := by
  refine Met.ofW (cc := cJx4a65c_add_9ea2d) (maxL := 2) (ret := (some .boolean)) (by decide) rfl ?_
  intro p e s m args below meth c s₁ B hml hv
  obtain ⟨rfl, hsz, hP, hD, hK, hN⟩ := hv
  have hx := B.exec
  have hb := B.bytes
  have hr := B.returns
  have hts0 := atoms_spec (ws := (Cond.code yJx4a65c_add_9ea2d cJx4a65c_add_9ea2d 2 (some .boolean) :: lw_all)) B.pre
  have hown : s.vm.findClass RJx4a65c = some m.cls := findClass_of_methodNamed B.named
  have hlocks := B.notSynchronized
  subst hsz
  have F : pt_F p m c cJx4a65c_add_9ea2d 2 s _ RJx4a65c D cA := ⟨⟨hx, hb, hml, hown, fun w h => hts0 w (List.mem_cons_of_mem _ h)⟩, hK⟩
  have s_cb : 1 ≤ (headSpec (Cond.code yJx4a65c_add_9ea2d cJx4a65c_add_9ea2d 2 (some .boolean) :: lw_all) ({ frames := 4, cells := 1, slots := 10, locals := 87 } : Room)).room.cells := (Nat.le_of_ble_eq_true rfl)
  have s_sb : 10 ≤ (headSpec (Cond.code yJx4a65c_add_9ea2d cJx4a65c_add_9ea2d 2 (some .boolean) :: lw_all) ({ frames := 4, cells := 1, slots := 10, locals := 87 } : Room)).room.slots := (Nat.le_of_ble_eq_true rfl)
  have hS : va_S (va_A [(q, .inr (13, [.int k, .ref x14, .int 0])), (v, .inr (ci, vs))] s.heap.size) s.heap s.heap [] := va_S.rf
  have hA : ∀ q, s.heap.size ≤ q → (va_A [(q, .inr (13, [.int k, .ref x14, .int 0])), (v, .inr (ci, vs))] s.heap.size) q := fun q h => Or.inr h
  replace hP : va_P D pt_cl (([] : va_W) ++ [(q, .inr (13, [.int k, .ref x14, .int 0])), (v, .inr (ci, vs))]) s.heap := hP
  replace hD : va_D (va_A [(q, .inr (13, [.int k, .ref x14, .int 0])), (v, .inr (ci, vs))] s.heap.size) (([] : va_W) ++ [(q, .inr (13, [.int k, .ref x14, .int 0])), (v, .inr (ci, vs))]) := hD
  have hl := lv_entry ([.ref q, .ref v]) (n := 2) (Nat.le_of_ble_eq_true rfl)
  rw [lg_entry_eq]
  generalize (lg_sl ([.ref q, .ref v]) ++ List.replicate (2 - (lg_sl ([.ref q, .ref v])).length) Slot.unset).toArray = ls at hl ⊢
  have hl : lv_has ls 2 [(0, .ref q), (1, .ref v)] := hl
  refine lv_aload_n hx hb dJx4a65c_add_9ea2d_0 rfl (lv_at hl 0 rfl) ?_
  refine lv_dup hx hb dJx4a65c_add_9ea2d_1 rfl ?_
  refine sx_getI F hP 0 rfl inX13 rfl 0 (by decide) kw_975 kw_976 rfl dJx4a65c_add_9ea2d_2 ?_
  refine lv_iconst (v := 1) hx hb dJx4a65c_add_9ea2d_5 (by decide) ?_
  refine lv_iadd hx hb dJx4a65c_add_9ea2d_6 ?_
  refine sx_putI (Y' := [(q, .inr (13, [.int (k + 1), .ref x14, .int 0])), (v, .inr (ci, vs))]) F hP hD hS 0 rfl inX13 tyJx4a65c tyJx4a65c_ok nmJx4a65c rfl 0 (by decide) kw_975 kw_976 rfl rfl rfl (Nat.le_of_ble_eq_true rfl) rfl dJx4a65c_add_9ea2d_7 (fun H locs hP hD hS => ?_)
  refine lv_aload_n hx hb dJx4a65c_add_9ea2d_10 rfl (lv_at hl 0 rfl) ?_
  refine lv_aload_n hx hb dJx4a65c_add_9ea2d_11 rfl (lv_at hl 1 rfl) ?_
  refine lv_aload_n hx hb dJx4a65c_add_9ea2d_12 rfl (lv_at hl 0 rfl) ?_
  refine sx_get F hP 0 rfl inX13 rfl 1 (by decide) kw_972 rfl rfl dJx4a65c_add_9ea2d_13 ?_
  refine lv_aload_n hx hb dJx4a65c_add_9ea2d_16 rfl (lv_at hl 0 rfl) ?_
  refine sx_get F hP 0 rfl inX13 rfl 2 (by decide) kw_973 rfl rfl dJx4a65c_add_9ea2d_17 ?_
  refine sx_callv (wc := [(q, .inr (13, [.int (k + 1), .ref x14, .int 0])), (v, .inr (ci, vs))]) (wr := []) (sx_runV (n := 3) (As := [.ref v, .ref x14, .int 0]) (rest := []) F hP 0 rfl rfl (mtA3f l D cA _ x13 x14 q v ((k + 1)) ci ([v, s]) hc hca) sx_blind (sx_pre (wc := [(q, .inr (13, [.int (k + 1), .ref x14, .int 0])), (v, .inr (ci, vs))]) F hP hD hN hS hA [0, 1] rfl rfl) kw_1087 kw_1084 kw_64 kw_1086 kw_25 ⟨by decide, by decide, by decide +kernel⟩ ⟨rfl, rfl, (Nat.le_of_ble_eq_true rfl), (Nat.le_of_ble_eq_true rfl)⟩ rfl hl.1 rfl (Nat.le_of_ble_eq_true rfl) dJx4a65c_add_9ea2d_20 ⟨(Nat.le_trans (Nat.le_of_ble_eq_true rfl) s_cb), (Nat.le_trans (Nat.le_of_ble_eq_true rfl) s_sb)⟩) hP hD hS hA [0, 1] [] rfl rfl rfl (by decide) (fun q52_7_7_20 H locs _ hP hD hS => ?_)
  replace hP : va_P D pt_cl (([] : va_W) ++ [(v, .inr (ci, [v, s])), (q, .inr (13, [.int (k + 1), .ref q52_7_7_20, .int (0 + 1)])), (q52_7_7_20, .inl (cA 4, 10, .inr (.inr (.inr (.inr (fun i => if i = 0 then some v else none))))))]) H := hP
  replace hD : va_D (va_A [(q, .inr (13, [.int k, .ref x14, .int 0])), (v, .inr (ci, vs))] s.heap.size) (([] : va_W) ++ [(v, .inr (ci, [v, s])), (q, .inr (13, [.int (k + 1), .ref q52_7_7_20, .int (0 + 1)])), (q52_7_7_20, .inl (cA 4, 10, .inr (.inr (.inr (.inr (fun i => if i = 0 then some v else none))))))]) := hD
  refine W.widen (k := 1) (n := 10) (Nat.le_of_ble_eq_true rfl) (Nat.le_of_ble_eq_true rfl) ?_
  refine lv_iconst (v := 1) hx hb dJx4a65c_add_9ea2d_23 (by decide) ?_
  exact W.iret (v := 1) hx hb hr (fun t ht hW => ⟨⟨_, q52_7_7_20, rfl, rfl, ⟨by rw [ht]; exact hP, hD⟩⟩, hS.F ht⟩) hS.2.2 dJx4a65c_add_9ea2d_24
def sw_A3s (cA : Nat → ClassId) (x13 x14 : Nat) (q : Nat) (r : Nat) (v : Nat) (k : Int32) (g : Nat → Option Nat) (ci : Nat) (vs : List Value) : Unit → va_W := fun u => match u with
  | _ => [(q, .inr (13, [.int k, .ref r, .int (1 + 1)])), (r, .inl (cA 4, 10, .inr (.inr (.inr (.inr (va_up g 1 (some v))))))), (v, .inr (ci, vs))]
set_option maxHeartbeats 8000000 in
set_option maxRecDepth 100000 in
theorem mtA3s (l : Launch) (D : va_G) (cA : Nat → ClassId) (sz x13 x14 : Nat) (q : Nat) (r : Nat) (v : Nat) (k : Int32) (g : Nat → Option Nat) (ci : Nat) (vs : List Value) {rr : vw_C} (hc : pt_cl[ci]? = some rr) (hca : Cond.castable rr.1 "java/lang/Object" ∈ lw_all) : Met l yJx4a65c_add_72be8 (Cond.code yJx4a65c_add_72be8 cJx4a65c_add_72be8 4 none :: lw_all) ({ frames := 0, cells := 0, slots := 0, locals := 0 } : Room) (va_Pc [.ref q, .ref v, .ref r, .int 1] (sx_P D cA x13 x14 sz [(q, .inr (13, [.int k, .ref r, .int 1])), (r, .inl (cA 4, 10, .inr (.inr (.inr (.inr g))))), (v, .inr (ci, vs))])) (va_Qv (fun _ : Unit => True) (sx_B D [(q, .inr (13, [.int k, .ref r, .int 1])), (r, .inl (cA 4, 10, .inr (.inr (.inr (.inr g))))), (v, .inr (ci, vs))] sz (sw_A3s cA x13 x14 q r v k g ci vs)) (va_A [(q, .inr (13, [.int k, .ref r, .int 1])), (r, .inl (cA 4, 10, .inr (.inr (.inr (.inr g))))), (v, .inr (ci, vs))] sz)) 0 0 (va_A [(q, .inr (13, [.int k, .ref r, .int 1])), (r, .inl (cA 4, 10, .inr (.inr (.inr (.inr g))))), (v, .inr (ci, vs))] sz) := by
  refine Met.ofW (cc := cJx4a65c_add_72be8) (maxL := 4) (ret := none) (by decide) rfl ?_
  intro p e s m args below meth c s₁ B hml hv
  obtain ⟨rfl, hsz, hP, hD, hK, hN⟩ := hv
  have hx := B.exec
  have hb := B.bytes
  have hr := B.returns
  have hts0 := atoms_spec (ws := (Cond.code yJx4a65c_add_72be8 cJx4a65c_add_72be8 4 none :: lw_all)) B.pre
  have hown : s.vm.findClass RJx4a65c = some m.cls := findClass_of_methodNamed B.named
  have hlocks := B.notSynchronized
  subst hsz
  have F : pt_F p m c cJx4a65c_add_72be8 4 s _ RJx4a65c D cA := ⟨⟨hx, hb, hml, hown, fun w h => hts0 w (List.mem_cons_of_mem _ h)⟩, hK⟩
  have s_cb : 0 ≤ (headSpec (Cond.code yJx4a65c_add_72be8 cJx4a65c_add_72be8 4 none :: lw_all) ({ frames := 0, cells := 0, slots := 0, locals := 0 } : Room)).room.cells := (Nat.le_of_ble_eq_true rfl)
  have s_sb : 0 ≤ (headSpec (Cond.code yJx4a65c_add_72be8 cJx4a65c_add_72be8 4 none :: lw_all) ({ frames := 0, cells := 0, slots := 0, locals := 0 } : Room)).room.slots := (Nat.le_of_ble_eq_true rfl)
  have hS : va_S (va_A [(q, .inr (13, [.int k, .ref r, .int 1])), (r, .inl (cA 4, 10, .inr (.inr (.inr (.inr g))))), (v, .inr (ci, vs))] s.heap.size) s.heap s.heap [] := va_S.rf
  have hA : ∀ q, s.heap.size ≤ q → (va_A [(q, .inr (13, [.int k, .ref r, .int 1])), (r, .inl (cA 4, 10, .inr (.inr (.inr (.inr g))))), (v, .inr (ci, vs))] s.heap.size) q := fun q h => Or.inr h
  replace hP : va_P D pt_cl (([] : va_W) ++ [(q, .inr (13, [.int k, .ref r, .int 1])), (r, .inl (cA 4, 10, .inr (.inr (.inr (.inr g))))), (v, .inr (ci, vs))]) s.heap := hP
  replace hD : va_D (va_A [(q, .inr (13, [.int k, .ref r, .int 1])), (r, .inl (cA 4, 10, .inr (.inr (.inr (.inr g))))), (v, .inr (ci, vs))] s.heap.size) (([] : va_W) ++ [(q, .inr (13, [.int k, .ref r, .int 1])), (r, .inl (cA 4, 10, .inr (.inr (.inr (.inr g))))), (v, .inr (ci, vs))]) := hD
  have hl := lv_entry ([.ref q, .ref v, .ref r, .int 1]) (n := 4) (Nat.le_of_ble_eq_true rfl)
  rw [lg_entry_eq]
  generalize (lg_sl ([.ref q, .ref v, .ref r, .int 1]) ++ List.replicate (4 - (lg_sl ([.ref q, .ref v, .ref r, .int 1])).length) Slot.unset).toArray = ls at hl ⊢
  have hl : lv_has ls 4 [(0, .ref q), (1, .ref v), (2, .ref r), (3, .int 1)] := hl
  refine lv_iload_n hx hb dJx4a65c_add_72be8_0 rfl (lv_at hl 3 rfl) ?_
  refine lv_aload_n hx hb dJx4a65c_add_72be8_1 rfl (lv_at hl 2 rfl) ?_
  refine pt_ylen F hP 4 1 rfl rfl dJx4a65c_add_72be8_2 ?_
  refine lv_icmp_ne (tgt := 11) hx hb dJx4a65c_add_72be8_3 (by decide) (fun hc => ?_) (fun hc => absurd hc (by decide))
  refine lv_aload_n hx hb dJx4a65c_add_72be8_11 rfl (lv_at hl 2 rfl) ?_
  refine lv_iload_n hx hb dJx4a65c_add_72be8_12 rfl (lv_at hl 3 rfl) ?_
  refine lv_aload_n hx hb dJx4a65c_add_72be8_13 rfl (lv_at hl 1 rfl) ?_
  refine sx_yastO (Y' := [(q, .inr (13, [.int k, .ref r, .int 1])), (r, .inl (cA 4, 10, .inr (.inr (.inr (.inr (va_up g 1 (some v))))))), (v, .inr (ci, vs))]) F hP hD hS 1 2 rfl rfl hc hca (show vp_in 1 10 from by unfold vp_in; decide) dJx4a65c_add_72be8_14 rfl (fun H locs hP hD hS => ?_)
  refine lv_aload_n hx hb dJx4a65c_add_72be8_15 rfl (lv_at hl 0 rfl) ?_
  refine lv_iload_n hx hb dJx4a65c_add_72be8_16 rfl (lv_at hl 3 rfl) ?_
  refine lv_iconst (v := 1) hx hb dJx4a65c_add_72be8_17 (by decide) ?_
  refine lv_iadd hx hb dJx4a65c_add_72be8_18 ?_
  refine sx_put (Y' := [(q, .inr (13, [.int k, .ref r, .int (1 + 1)])), (r, .inl (cA 4, 10, .inr (.inr (.inr (.inr (va_up g 1 (some v))))))), (v, .inr (ci, vs))]) F hP hD hS 0 rfl inX13 tyJx4a65c tyJx4a65c_ok nmJx4a65c rfl 2 (by decide) kw_973 rfl rfl rfl rfl (Nat.le_of_ble_eq_true rfl) rfl dJx4a65c_add_72be8_19 (fun H locs hP hD hS => ?_)
  exact W.vret hx hb hr (fun t ht hW => ⟨⟨(), rfl, trivial, ⟨by rw [ht]; exact hP, hD⟩⟩, hS.F ht⟩) hS.2.2 dJx4a65c_add_72be8_22
def sw_A1s (cA : Nat → ClassId) (x13 x14 : Nat) (q : Nat) (r : Nat) (v : Nat) (k : Int32) (g : Nat → Option Nat) (ci : Nat) (vs : List Value) : Unit → va_W := fun u => match u with
  | _ => [(q, .inr (13, [.int (k + 1), .ref r, .int (1 + 1)])), (r, .inl (cA 4, 10, .inr (.inr (.inr (.inr (va_up g 1 (some v))))))), (v, .inr (ci, [v, s]))]
set_option maxHeartbeats 8000000 in
set_option maxRecDepth 100000 in
theorem mtA1s (l : Launch) (D : va_G) (cA : Nat → ClassId) (sz x13 x14 : Nat) (q : Nat) (r : Nat) (v : Nat) (k : Int32) (g : Nat → Option Nat) (ci : Nat) (vs : List Value) {rr : vw_C} (hc : pt_cl[ci]? = some rr) (hca : Cond.castable rr.1 "java/lang/Object" ∈ lw_all) : Met l yJx4a65c_add_9ea2d (Cond.code yJx4a65c_add_9ea2d cJx4a65c_add_9ea2d 2 (some .boolean) :: lw_all) ({ frames := 1, cells := 0, slots := 0, locals := 23 } : Room) (va_Pc [.ref q, .ref v] (sx_P D cA x13 x14 sz [(q, .inr (13, [.int k, .ref r, .int 1])), (r, .inl (cA 4, 10, .inr (.inr (.inr (.inr g))))), (v, .inr (ci, vs))])) (va_Qi (fun (r : Int32) (_ : Unit) => r = 1) (sx_B D [(q, .inr (13, [.int k, .ref r, .int 1])), (r, .inl (cA 4, 10, .inr (.inr (.inr (.inr g))))), (v, .inr (ci, vs))] sz (sw_A1s cA x13 x14 q r v k g ci vs)) (va_A [(q, .inr (13, [.int k, .ref r, .int 1])), (r, .inl (cA 4, 10, .inr (.inr (.inr (.inr g))))), (v, .inr (ci, vs))] sz)) 0 0 (va_A [(q, .inr (13, [.int k, .ref r, .int 1])), (r, .inl (cA 4, 10, .inr (.inr (.inr (.inr g))))), (v, .inr (ci, vs))] sz) := by
  refine Met.ofW (cc := cJx4a65c_add_9ea2d) (maxL := 2) (ret := (some .boolean)) (by decide) rfl ?_
  intro p e s m args below meth c s₁ B hml hv
  obtain ⟨rfl, hsz, hP, hD, hK, hN⟩ := hv
  have hx := B.exec
  have hb := B.bytes
  have hr := B.returns
  have hts0 := atoms_spec (ws := (Cond.code yJx4a65c_add_9ea2d cJx4a65c_add_9ea2d 2 (some .boolean) :: lw_all)) B.pre
  have hown : s.vm.findClass RJx4a65c = some m.cls := findClass_of_methodNamed B.named
  have hlocks := B.notSynchronized
  subst hsz
  have F : pt_F p m c cJx4a65c_add_9ea2d 2 s _ RJx4a65c D cA := ⟨⟨hx, hb, hml, hown, fun w h => hts0 w (List.mem_cons_of_mem _ h)⟩, hK⟩
  have s_cb : 0 ≤ (headSpec (Cond.code yJx4a65c_add_9ea2d cJx4a65c_add_9ea2d 2 (some .boolean) :: lw_all) ({ frames := 1, cells := 0, slots := 0, locals := 23 } : Room)).room.cells := (Nat.le_of_ble_eq_true rfl)
  have s_sb : 0 ≤ (headSpec (Cond.code yJx4a65c_add_9ea2d cJx4a65c_add_9ea2d 2 (some .boolean) :: lw_all) ({ frames := 1, cells := 0, slots := 0, locals := 23 } : Room)).room.slots := (Nat.le_of_ble_eq_true rfl)
  have hS : va_S (va_A [(q, .inr (13, [.int k, .ref r, .int 1])), (r, .inl (cA 4, 10, .inr (.inr (.inr (.inr g))))), (v, .inr (ci, vs))] s.heap.size) s.heap s.heap [] := va_S.rf
  have hA : ∀ q, s.heap.size ≤ q → (va_A [(q, .inr (13, [.int k, .ref r, .int 1])), (r, .inl (cA 4, 10, .inr (.inr (.inr (.inr g))))), (v, .inr (ci, vs))] s.heap.size) q := fun q h => Or.inr h
  replace hP : va_P D pt_cl (([] : va_W) ++ [(q, .inr (13, [.int k, .ref r, .int 1])), (r, .inl (cA 4, 10, .inr (.inr (.inr (.inr g))))), (v, .inr (ci, vs))]) s.heap := hP
  replace hD : va_D (va_A [(q, .inr (13, [.int k, .ref r, .int 1])), (r, .inl (cA 4, 10, .inr (.inr (.inr (.inr g))))), (v, .inr (ci, vs))] s.heap.size) (([] : va_W) ++ [(q, .inr (13, [.int k, .ref r, .int 1])), (r, .inl (cA 4, 10, .inr (.inr (.inr (.inr g))))), (v, .inr (ci, vs))]) := hD
  have hl := lv_entry ([.ref q, .ref v]) (n := 2) (Nat.le_of_ble_eq_true rfl)
  rw [lg_entry_eq]
  generalize (lg_sl ([.ref q, .ref v]) ++ List.replicate (2 - (lg_sl ([.ref q, .ref v])).length) Slot.unset).toArray = ls at hl ⊢
  have hl : lv_has ls 2 [(0, .ref q), (1, .ref v)] := hl
  refine lv_aload_n hx hb dJx4a65c_add_9ea2d_0 rfl (lv_at hl 0 rfl) ?_
  refine lv_dup hx hb dJx4a65c_add_9ea2d_1 rfl ?_
  refine sx_getI F hP 0 rfl inX13 rfl 0 (by decide) kw_975 kw_976 rfl dJx4a65c_add_9ea2d_2 ?_
  refine lv_iconst (v := 1) hx hb dJx4a65c_add_9ea2d_5 (by decide) ?_
  refine lv_iadd hx hb dJx4a65c_add_9ea2d_6 ?_
  refine sx_putI (Y' := [(q, .inr (13, [.int (k + 1), .ref r, .int 1])), (r, .inl (cA 4, 10, .inr (.inr (.inr (.inr g))))), (v, .inr (ci, vs))]) F hP hD hS 0 rfl inX13 tyJx4a65c tyJx4a65c_ok nmJx4a65c rfl 0 (by decide) kw_975 kw_976 rfl rfl rfl (Nat.le_of_ble_eq_true rfl) rfl dJx4a65c_add_9ea2d_7 (fun H locs hP hD hS => ?_)
  refine lv_aload_n hx hb dJx4a65c_add_9ea2d_10 rfl (lv_at hl 0 rfl) ?_
  refine lv_aload_n hx hb dJx4a65c_add_9ea2d_11 rfl (lv_at hl 1 rfl) ?_
  refine lv_aload_n hx hb dJx4a65c_add_9ea2d_12 rfl (lv_at hl 0 rfl) ?_
  refine sx_get F hP 0 rfl inX13 rfl 1 (by decide) kw_972 rfl rfl dJx4a65c_add_9ea2d_13 ?_
  refine lv_aload_n hx hb dJx4a65c_add_9ea2d_16 rfl (lv_at hl 0 rfl) ?_
  refine sx_get F hP 0 rfl inX13 rfl 2 (by decide) kw_973 rfl rfl dJx4a65c_add_9ea2d_17 ?_
  refine sx_callv (wc := [(q, .inr (13, [.int (k + 1), .ref r, .int 1])), (r, .inl (cA 4, 10, .inr (.inr (.inr (.inr g))))), (v, .inr (ci, vs))]) (wr := []) (sx_runV (n := 3) (As := [.ref v, .ref r, .int 1]) (rest := []) F hP 0 rfl rfl (mtA3s l D cA _ x13 x14 q r v ((k + 1)) g ci ([v, s]) hc hca) sx_blind (sx_pre (wc := [(q, .inr (13, [.int (k + 1), .ref r, .int 1])), (r, .inl (cA 4, 10, .inr (.inr (.inr (.inr g))))), (v, .inr (ci, vs))]) F hP hD hN hS hA [0, 1, 2] rfl rfl) kw_1087 kw_1084 kw_64 kw_1086 kw_25 ⟨by decide, by decide, by decide +kernel⟩ ⟨rfl, rfl, (Nat.le_of_ble_eq_true rfl), (Nat.le_of_ble_eq_true rfl)⟩ rfl hl.1 rfl (Nat.le_of_ble_eq_true rfl) dJx4a65c_add_9ea2d_20 ⟨(Nat.le_trans (Nat.le_of_ble_eq_true rfl) s_cb), (Nat.le_trans (Nat.le_of_ble_eq_true rfl) s_sb)⟩) hP hD hS hA [0, 1, 2] [] rfl rfl rfl (by decide) (fun _ H locs _ hP hD hS => ?_)
  replace hP : va_P D pt_cl (([] : va_W) ++ [(q, .inr (13, [.int (k + 1), .ref r, .int (1 + 1)])), (r, .inl (cA 4, 10, .inr (.inr (.inr (.inr (va_up g 1 (some v))))))), (v, .inr (ci, [v, s]))]) H := hP
  replace hD : va_D (va_A [(q, .inr (13, [.int k, .ref r, .int 1])), (r, .inl (cA 4, 10, .inr (.inr (.inr (.inr g))))), (v, .inr (ci, vs))] s.heap.size) (([] : va_W) ++ [(q, .inr (13, [.int (k + 1), .ref r, .int (1 + 1)])), (r, .inl (cA 4, 10, .inr (.inr (.inr (.inr (va_up g 1 (some v))))))), (v, .inr (ci, [v, s]))]) := hD
  refine W.widen (k := 0) (n := 0) (Nat.le_of_ble_eq_true rfl) (Nat.le_of_ble_eq_true rfl) ?_
  refine lv_iconst (v := 1) hx hb dJx4a65c_add_9ea2d_23 (by decide) ?_
  exact W.iret (v := 1) hx hb hr (fun t ht hW => ⟨⟨_, (), rfl, rfl, ⟨by rw [ht]; exact hP, hD⟩⟩, hS.F ht⟩) hS.2.2 dJx4a65c_add_9ea2d_24
def sw_SZ (cA : Nat → ClassId) (x13 x14 : Nat) (q : Nat) (k : Int32) (e : Nat) (n : Int32) : Unit → va_W := fun u => match u with
  | _ => [(q, .inr (13, [.int k, .ref e, .int n]))]
set_option maxHeartbeats 8000000 in
set_option maxRecDepth 100000 in
theorem mtSZ (l : Launch) (D : va_G) (cA : Nat → ClassId) (sz x13 x14 : Nat) (q : Nat) (k : Int32) (e : Nat) (n : Int32) : Met l yJx4a65c_size_8abf5 (Cond.code yJx4a65c_size_8abf5 cJx4a65c_size_8abf5 1 (some .int) :: lw_all) ({ frames := 0, cells := 0, slots := 0, locals := 0 } : Room) (va_Pc [.ref q] (sx_P D cA x13 x14 sz [(q, .inr (13, [.int k, .ref e, .int n]))])) (va_Qi (fun (r : Int32) (_ : Unit) => r = n) (sx_B D [(q, .inr (13, [.int k, .ref e, .int n]))] sz (sw_SZ cA x13 x14 q k e n)) (va_A [(q, .inr (13, [.int k, .ref e, .int n]))] sz)) 0 0 (va_A [(q, .inr (13, [.int k, .ref e, .int n]))] sz) := by
  refine Met.ofW (cc := cJx4a65c_size_8abf5) (maxL := 1) (ret := (some .int)) (by decide) rfl ?_
  intro p e s m args below meth c s₁ B hml hv
  obtain ⟨rfl, hsz, hP, hD, hK, hN⟩ := hv
  have hx := B.exec
  have hb := B.bytes
  have hr := B.returns
  have hts0 := atoms_spec (ws := (Cond.code yJx4a65c_size_8abf5 cJx4a65c_size_8abf5 1 (some .int) :: lw_all)) B.pre
  have hown : s.vm.findClass RJx4a65c = some m.cls := findClass_of_methodNamed B.named
  have hlocks := B.notSynchronized
  subst hsz
  have F : pt_F p m c cJx4a65c_size_8abf5 1 s _ RJx4a65c D cA := ⟨⟨hx, hb, hml, hown, fun w h => hts0 w (List.mem_cons_of_mem _ h)⟩, hK⟩
  have s_cb : 0 ≤ (headSpec (Cond.code yJx4a65c_size_8abf5 cJx4a65c_size_8abf5 1 (some .int) :: lw_all) ({ frames := 0, cells := 0, slots := 0, locals := 0 } : Room)).room.cells := (Nat.le_of_ble_eq_true rfl)
  have s_sb : 0 ≤ (headSpec (Cond.code yJx4a65c_size_8abf5 cJx4a65c_size_8abf5 1 (some .int) :: lw_all) ({ frames := 0, cells := 0, slots := 0, locals := 0 } : Room)).room.slots := (Nat.le_of_ble_eq_true rfl)
  have hS : va_S (va_A [(q, .inr (13, [.int k, .ref e, .int n]))] s.heap.size) s.heap s.heap [] := va_S.rf
  have hA : ∀ q, s.heap.size ≤ q → (va_A [(q, .inr (13, [.int k, .ref e, .int n]))] s.heap.size) q := fun q h => Or.inr h
  replace hP : va_P D pt_cl (([] : va_W) ++ [(q, .inr (13, [.int k, .ref e, .int n]))]) s.heap := hP
  replace hD : va_D (va_A [(q, .inr (13, [.int k, .ref e, .int n]))] s.heap.size) (([] : va_W) ++ [(q, .inr (13, [.int k, .ref e, .int n]))]) := hD
  have hl := lv_entry ([.ref q]) (n := 1) (Nat.le_of_ble_eq_true rfl)
  rw [lg_entry_eq]
  generalize (lg_sl ([.ref q]) ++ List.replicate (1 - (lg_sl ([.ref q])).length) Slot.unset).toArray = ls at hl ⊢
  have hl : lv_has ls 1 [(0, .ref q)] := hl
  refine lv_aload_n hx hb dJx4a65c_size_8abf5_0 rfl (lv_at hl 0 rfl) ?_
  refine sx_get F hP 0 rfl inX13 rfl 2 (by decide) kw_973 rfl rfl dJx4a65c_size_8abf5_1 ?_
  exact W.iret (v := n) hx hb hr (fun t ht hW => ⟨⟨_, (), rfl, rfl, ⟨by rw [ht]; exact hP, hD⟩⟩, hS.F ht⟩) hS.2.2 dJx4a65c_size_8abf5_4
def sw_MO (cA : Nat → ClassId) (x13 x14 : Nat) (a : Nat) : Nat × Nat × Nat × Nat × Nat × Nat × Nat × Nat × Nat × Nat × Nat × Nat → va_W := fun u => match u with
  | (q5, q5_9, q16_9, q16, q12_21, q20_21, q27_21, q35_21, q41_21, q29, q41, q52_7_7_20_50) => [(a, .inr (12, [.int 0, .ref q5, .ref q16, .ref q29, .int 0])), (q5, .inr (8, [.ref q5_9, .ref q16_9])), (q16_9, .inr (13, [.int 0, .ref x14, .int 0])), (q16, .inr (9, [.int 0, .int 0, .ref q12_21, .ref q20_21, .ref q27_21, .ref q35_21, .ref q41_21, .int 0, .int 0, .int 0, .ref a])), (q12_21, .inl (cA 0, 20, .inl (fun _ => 0))), (q20_21, .inl (cA 0, 20, .inl (fun _ => 0))), (q27_21, .inl (cA 0, 4, .inl (fun _ => 0))), (q35_21, .inl (cA 0, 30, .inl (fun _ => 0))), (q41_21, .inr (13, [.int 0, .ref x14, .int 0])), (q29, .inl (cA 0, 0, .inl (fun _ => 0))), (q41, .inr (10, [q41, s])), (q5_9, .inr (13, [.int (0 + 1), .ref q52_7_7_20_50, .int (0 + 1)])), (q52_7_7_20_50, .inl (cA 4, 10, .inr (.inr (.inr (.inr (fun i => if i = 0 then some q41 else none))))))]
set_option maxHeartbeats 8000000 in
set_option maxRecDepth 100000 in
theorem mtMO (l : Launch) (D : va_G) (cA : Nat → ClassId) (sz x13 x14 : Nat) (a : Nat) : Met l yX12_init (Cond.code yX12_init cX12_init 1 none :: lw_all) ({ frames := 5, cells := 12, slots := 111, locals := 108 } : Room) (va_Pc [.ref a] (sx_P D cA x13 x14 sz [(a, .inr (12, [.int 0, .null, .null, .null, .int 0]))])) (va_Qv (fun _ : Nat × Nat × Nat × Nat × Nat × Nat × Nat × Nat × Nat × Nat × Nat × Nat => True) (sx_B D [(a, .inr (12, [.int 0, .null, .null, .null, .int 0]))] sz (sw_MO cA x13 x14 a)) (va_A [(a, .inr (12, [.int 0, .null, .null, .null, .int 0]))] sz)) 12 111 (va_A [(a, .inr (12, [.int 0, .null, .null, .null, .int 0]))] sz) := by
  refine Met.ofW (cc := cX12_init) (maxL := 1) (ret := none) (by decide) rfl ?_
  intro p e s m args below meth c s₁ B hml hv
  obtain ⟨rfl, hsz, hP, hD, hK, hN⟩ := hv
  have hx := B.exec
  have hb := B.bytes
  have hr := B.returns
  have hts0 := atoms_spec (ws := (Cond.code yX12_init cX12_init 1 none :: lw_all)) B.pre
  have hown : s.vm.findClass RX12 = some m.cls := findClass_of_methodNamed B.named
  have hlocks := B.notSynchronized
  subst hsz
  have hin : meth.name = "<init>" := (name_of_methodNamed B.named B.method).1
  have F : pt_F p m c cX12_init 1 s _ RX12 D cA := ⟨⟨hx, hb, hml, hown, fun w h => hts0 w (List.mem_cons_of_mem _ h)⟩, hK⟩
  have s_cb : 12 ≤ (headSpec (Cond.code yX12_init cX12_init 1 none :: lw_all) ({ frames := 5, cells := 12, slots := 111, locals := 108 } : Room)).room.cells := (Nat.le_of_ble_eq_true rfl)
  have s_sb : 111 ≤ (headSpec (Cond.code yX12_init cX12_init 1 none :: lw_all) ({ frames := 5, cells := 12, slots := 111, locals := 108 } : Room)).room.slots := (Nat.le_of_ble_eq_true rfl)
  have hS : va_S (va_A [(a, .inr (12, [.int 0, .null, .null, .null, .int 0]))] s.heap.size) s.heap s.heap [] := va_S.rf
  have hA : ∀ q, s.heap.size ≤ q → (va_A [(a, .inr (12, [.int 0, .null, .null, .null, .int 0]))] s.heap.size) q := fun q h => Or.inr h
  replace hP : va_P D pt_cl (([] : va_W) ++ [(a, .inr (12, [.int 0, .null, .null, .null, .int 0]))]) s.heap := hP
  replace hD : va_D (va_A [(a, .inr (12, [.int 0, .null, .null, .null, .int 0]))] s.heap.size) (([] : va_W) ++ [(a, .inr (12, [.int 0, .null, .null, .null, .int 0]))]) := hD
  have hl := lv_entry ([.ref a]) (n := 1) (Nat.le_of_ble_eq_true rfl)
  rw [lg_entry_eq]
  generalize (lg_sl ([.ref a]) ++ List.replicate (1 - (lg_sl ([.ref a])).length) Slot.unset).toArray = ls at hl ⊢
  have hl : lv_has ls 1 [(0, .ref a)] := hl
  refine lv_aload_n hx hb dX12_init_0 rfl (lv_at hl 0 rfl) ?_
  refine W.objInit hx hb hown (F.1.2.2.2.2 _ kw_951) (F.1.2.2.2.2 _ kw_89) (F.1.2.2.2.2 _ kw_90) rfl (by rw [hml]; exact hl.1) rfl dX12_init_1 (Nat.le_of_ble_eq_true rfl) (Nat.le_of_ble_eq_true rfl) ?_
  refine W.eq (g2 := F0 m 4 ls []) rfl ?_
  refine lv_aload_n hx hb dX12_init_4 rfl (lv_at hl 0 rfl) ?_
  refine pt_ynew (ci := 8) (fs := [.null, .null]) F hP hD hS hA inX8 tyX8 tyX8_ok kw_952 kw_953 kw_61 rfl (fun j hj => by rcases (show j = 0 ∨ j = 1 by omega) with rfl | rfl <;> rfl) (Nat.le_trans (Nat.le_of_ble_eq_true rfl) s_cb) (Nat.le_trans (Nat.le_of_ble_eq_true rfl) s_sb) dX12_init_5 (fun q5 H hP hD hS => ?_)
  replace hP : va_P D pt_cl (([] : va_W) ++ [(a, .inr (12, [.int 0, .null, .null, .null, .int 0])), (q5, .inr (8, [.null, .null]))]) H := hP
  replace hD : va_D (va_A [(a, .inr (12, [.int 0, .null, .null, .null, .int 0]))] s.heap.size) (([] : va_W) ++ [(a, .inr (12, [.int 0, .null, .null, .null, .int 0])), (q5, .inr (8, [.null, .null]))]) := hD
  refine W.widen (k := 1) (n := 2) (Nat.le_of_ble_eq_true rfl) (Nat.le_of_ble_eq_true rfl) ?_
  refine lv_dup hx hb dX12_init_8 rfl ?_
  refine sx_callv (wc := [(q5, .inr (8, [.null, .null]))]) (wr := [(a, .inr (12, [.int 0, .null, .null, .null, .int 0]))]) (pt_krun (n := 0) (As := []) (rest := [.ref q5, .ref a]) F (mtCH l D cA _ x13 x14 q5 ) sx_blind (sx_pre (wc := [(q5, .inr (8, [.null, .null]))]) F hP hD hN hS hA [1] rfl rfl) kw_956 (Or.inr ⟨_, kw_954⟩) kw_61 kw_955 rfl ⟨by decide, by decide, by decide +kernel⟩ ⟨rfl, rfl, (Nat.le_of_ble_eq_true rfl), (Nat.le_of_ble_eq_true rfl)⟩ rfl hl.1 rfl (Nat.le_of_ble_eq_true rfl) dX12_init_9 ⟨(Nat.le_trans (Nat.le_of_ble_eq_true rfl) s_cb), (Nat.le_trans (Nat.le_of_ble_eq_true rfl) s_sb)⟩) hP hD hS hA [1] [0] rfl rfl rfl (by decide) (fun u_9 H locs _ hP hD hS => ?_)
  obtain ⟨q5_9, q16_9⟩ := u_9
  replace hP : va_P D pt_cl (([] : va_W) ++ [(a, .inr (12, [.int 0, .null, .null, .null, .int 0])), (q5, .inr (8, [.ref q5_9, .ref q16_9])), (q5_9, .inr (13, [.int 0, .ref x14, .int 0])), (q16_9, .inr (13, [.int 0, .ref x14, .int 0]))]) H := hP
  replace hD : va_D (va_A [(a, .inr (12, [.int 0, .null, .null, .null, .int 0]))] s.heap.size) (([] : va_W) ++ [(a, .inr (12, [.int 0, .null, .null, .null, .int 0])), (q5, .inr (8, [.ref q5_9, .ref q16_9])), (q5_9, .inr (13, [.int 0, .ref x14, .int 0])), (q16_9, .inr (13, [.int 0, .ref x14, .int 0]))]) := hD
  refine W.widen (k := 3) (n := 8) (Nat.le_of_ble_eq_true rfl) (Nat.le_of_ble_eq_true rfl) ?_
  refine sx_putF (Y' := [(a, .inr (12, [.int 0, .ref q5, .null, .null, .int 0])), (q5, .inr (8, [.ref q5_9, .ref q16_9])), (q5_9, .inr (13, [.int 0, .ref x14, .int 0])), (q16_9, .inr (13, [.int 0, .ref x14, .int 0]))]) F hP hD hS hin 0 rfl inX12 tyX12 tyX12_ok nmX12 rfl 1 (by decide) kw_1140 rfl rfl rfl rfl rfl (Nat.le_of_ble_eq_true rfl) rfl dX12_init_12 (fun H locs hP hD hS => ?_)
  refine lv_aload_n hx hb dX12_init_15 rfl (lv_at hl 0 rfl) ?_
  refine pt_ynew (ci := 9) (fs := [.int 0, .int 0, .null, .null, .null, .null, .null, .int 0, .int 0, .int 0, .null]) F hP hD hS hA inX9 tyX9 tyX9_ok kw_995 kw_996 kw_65 rfl (fun j hj => by rcases (show j = 0 ∨ j = 1 ∨ j = 2 ∨ j = 3 ∨ j = 4 ∨ j = 5 ∨ j = 6 ∨ j = 7 ∨ j = 8 ∨ j = 9 ∨ j = 10 by omega) with rfl | rfl | rfl | rfl | rfl | rfl | rfl | rfl | rfl | rfl | rfl <;> rfl) (Nat.le_trans (Nat.le_of_ble_eq_true rfl) s_cb) (Nat.le_trans (Nat.le_of_ble_eq_true rfl) s_sb) dX12_init_16 (fun q16 H hP hD hS => ?_)
  replace hP : va_P D pt_cl (([] : va_W) ++ [(a, .inr (12, [.int 0, .ref q5, .null, .null, .int 0])), (q5, .inr (8, [.ref q5_9, .ref q16_9])), (q5_9, .inr (13, [.int 0, .ref x14, .int 0])), (q16_9, .inr (13, [.int 0, .ref x14, .int 0])), (q16, .inr (9, [.int 0, .int 0, .null, .null, .null, .null, .null, .int 0, .int 0, .int 0, .null]))]) H := hP
  replace hD : va_D (va_A [(a, .inr (12, [.int 0, .null, .null, .null, .int 0]))] s.heap.size) (([] : va_W) ++ [(a, .inr (12, [.int 0, .ref q5, .null, .null, .int 0])), (q5, .inr (8, [.ref q5_9, .ref q16_9])), (q5_9, .inr (13, [.int 0, .ref x14, .int 0])), (q16_9, .inr (13, [.int 0, .ref x14, .int 0])), (q16, .inr (9, [.int 0, .int 0, .null, .null, .null, .null, .null, .int 0, .int 0, .int 0, .null]))]) := hD
  refine W.widen (k := 4) (n := 19) (Nat.le_of_ble_eq_true rfl) (Nat.le_of_ble_eq_true rfl) ?_
  refine lv_dup hx hb dX12_init_19 rfl ?_
  refine lv_aload_n hx hb dX12_init_20 rfl (lv_at hl 0 rfl) ?_
  refine sx_callv (wc := [(q16, .inr (9, [.int 0, .int 0, .null, .null, .null, .null, .null, .int 0, .int 0, .int 0, .null]))]) (wr := [(a, .inr (12, [.int 0, .ref q5, .null, .null, .int 0])), (q5, .inr (8, [.ref q5_9, .ref q16_9])), (q5_9, .inr (13, [.int 0, .ref x14, .int 0])), (q16_9, .inr (13, [.int 0, .ref x14, .int 0]))]) (pt_krun (n := 1) (As := [.ref a]) (rest := [.ref q16, .ref a]) F (mtRU l D cA _ x13 x14 q16 a ) sx_blind (sx_pre (wc := [(q16, .inr (9, [.int 0, .int 0, .null, .null, .null, .null, .null, .int 0, .int 0, .int 0, .null]))]) F hP hD hN hS hA [4] rfl rfl) kw_999 (Or.inr ⟨_, kw_997⟩) kw_65 kw_998 rfl ⟨by decide, by decide, by decide +kernel⟩ ⟨rfl, rfl, (Nat.le_of_ble_eq_true rfl), (Nat.le_of_ble_eq_true rfl)⟩ rfl hl.1 rfl (Nat.le_of_ble_eq_true rfl) dX12_init_21 ⟨(Nat.le_trans (Nat.le_of_ble_eq_true rfl) s_cb), (Nat.le_trans (Nat.le_of_ble_eq_true rfl) s_sb)⟩) hP hD hS hA [4] [0, 1, 2, 3] rfl rfl rfl (by decide) (fun u_21 H locs _ hP hD hS => ?_)
  obtain ⟨q12_21, q20_21, q27_21, q35_21, q41_21⟩ := u_21
  replace hP : va_P D pt_cl (([] : va_W) ++ [(a, .inr (12, [.int 0, .ref q5, .null, .null, .int 0])), (q5, .inr (8, [.ref q5_9, .ref q16_9])), (q5_9, .inr (13, [.int 0, .ref x14, .int 0])), (q16_9, .inr (13, [.int 0, .ref x14, .int 0])), (q16, .inr (9, [.int 0, .int 0, .ref q12_21, .ref q20_21, .ref q27_21, .ref q35_21, .ref q41_21, .int 0, .int 0, .int 0, .ref a])), (q12_21, .inl (cA 0, 20, .inl (fun _ => 0))), (q20_21, .inl (cA 0, 20, .inl (fun _ => 0))), (q27_21, .inl (cA 0, 4, .inl (fun _ => 0))), (q35_21, .inl (cA 0, 30, .inl (fun _ => 0))), (q41_21, .inr (13, [.int 0, .ref x14, .int 0]))]) H := hP
  replace hD : va_D (va_A [(a, .inr (12, [.int 0, .null, .null, .null, .int 0]))] s.heap.size) (([] : va_W) ++ [(a, .inr (12, [.int 0, .ref q5, .null, .null, .int 0])), (q5, .inr (8, [.ref q5_9, .ref q16_9])), (q5_9, .inr (13, [.int 0, .ref x14, .int 0])), (q16_9, .inr (13, [.int 0, .ref x14, .int 0])), (q16, .inr (9, [.int 0, .int 0, .ref q12_21, .ref q20_21, .ref q27_21, .ref q35_21, .ref q41_21, .int 0, .int 0, .int 0, .ref a])), (q12_21, .inl (cA 0, 20, .inl (fun _ => 0))), (q20_21, .inl (cA 0, 20, .inl (fun _ => 0))), (q27_21, .inl (cA 0, 4, .inl (fun _ => 0))), (q35_21, .inl (cA 0, 30, .inl (fun _ => 0))), (q41_21, .inr (13, [.int 0, .ref x14, .int 0]))]) := hD
  refine W.widen (k := 9) (n := 96) (Nat.le_of_ble_eq_true rfl) (Nat.le_of_ble_eq_true rfl) ?_
  refine sx_putF (Y' := [(a, .inr (12, [.int 0, .ref q5, .ref q16, .null, .int 0])), (q5, .inr (8, [.ref q5_9, .ref q16_9])), (q5_9, .inr (13, [.int 0, .ref x14, .int 0])), (q16_9, .inr (13, [.int 0, .ref x14, .int 0])), (q16, .inr (9, [.int 0, .int 0, .ref q12_21, .ref q20_21, .ref q27_21, .ref q35_21, .ref q41_21, .int 0, .int 0, .int 0, .ref a])), (q12_21, .inl (cA 0, 20, .inl (fun _ => 0))), (q20_21, .inl (cA 0, 20, .inl (fun _ => 0))), (q27_21, .inl (cA 0, 4, .inl (fun _ => 0))), (q35_21, .inl (cA 0, 30, .inl (fun _ => 0))), (q41_21, .inr (13, [.int 0, .ref x14, .int 0]))]) F hP hD hS hin 0 rfl inX12 tyX12 tyX12_ok nmX12 rfl 2 (by decide) kw_1142 rfl rfl rfl rfl rfl (Nat.le_of_ble_eq_true rfl) rfl dX12_init_24 (fun H locs hP hD hS => ?_)
  refine lv_aload_n hx hb dX12_init_27 rfl (lv_at hl 0 rfl) ?_
  refine lv_iconst (v := 0) hx hb dX12_init_28 (by decide) ?_
  refine pt_xnew (N := 0) F hP hD hS hA kw_128 (by decide) (by decide) (by decide) (Nat.le_trans (Nat.le_of_ble_eq_true rfl) s_cb) (Nat.le_trans (Nat.le_of_ble_eq_true rfl) s_sb) dX12_init_29 (fun q29 H hP hD hS => ?_)
  replace hP : va_P D pt_cl (([] : va_W) ++ [(a, .inr (12, [.int 0, .ref q5, .ref q16, .null, .int 0])), (q5, .inr (8, [.ref q5_9, .ref q16_9])), (q5_9, .inr (13, [.int 0, .ref x14, .int 0])), (q16_9, .inr (13, [.int 0, .ref x14, .int 0])), (q16, .inr (9, [.int 0, .int 0, .ref q12_21, .ref q20_21, .ref q27_21, .ref q35_21, .ref q41_21, .int 0, .int 0, .int 0, .ref a])), (q12_21, .inl (cA 0, 20, .inl (fun _ => 0))), (q20_21, .inl (cA 0, 20, .inl (fun _ => 0))), (q27_21, .inl (cA 0, 4, .inl (fun _ => 0))), (q35_21, .inl (cA 0, 30, .inl (fun _ => 0))), (q41_21, .inr (13, [.int 0, .ref x14, .int 0])), (q29, .inl (cA 0, 0, .inl (fun _ => 0)))]) H := hP
  replace hD : va_D (va_A [(a, .inr (12, [.int 0, .null, .null, .null, .int 0]))] s.heap.size) (([] : va_W) ++ [(a, .inr (12, [.int 0, .ref q5, .ref q16, .null, .int 0])), (q5, .inr (8, [.ref q5_9, .ref q16_9])), (q5_9, .inr (13, [.int 0, .ref x14, .int 0])), (q16_9, .inr (13, [.int 0, .ref x14, .int 0])), (q16, .inr (9, [.int 0, .int 0, .ref q12_21, .ref q20_21, .ref q27_21, .ref q35_21, .ref q41_21, .int 0, .int 0, .int 0, .ref a])), (q12_21, .inl (cA 0, 20, .inl (fun _ => 0))), (q20_21, .inl (cA 0, 20, .inl (fun _ => 0))), (q27_21, .inl (cA 0, 4, .inl (fun _ => 0))), (q35_21, .inl (cA 0, 30, .inl (fun _ => 0))), (q41_21, .inr (13, [.int 0, .ref x14, .int 0])), (q29, .inl (cA 0, 0, .inl (fun _ => 0)))]) := hD
  refine W.widen (k := 10) (n := 96) (Nat.le_of_ble_eq_true rfl) (Nat.le_of_ble_eq_true rfl) ?_
  refine sx_put (Y' := [(a, .inr (12, [.int 0, .ref q5, .ref q16, .ref q29, .int 0])), (q5, .inr (8, [.ref q5_9, .ref q16_9])), (q5_9, .inr (13, [.int 0, .ref x14, .int 0])), (q16_9, .inr (13, [.int 0, .ref x14, .int 0])), (q16, .inr (9, [.int 0, .int 0, .ref q12_21, .ref q20_21, .ref q27_21, .ref q35_21, .ref q41_21, .int 0, .int 0, .int 0, .ref a])), (q12_21, .inl (cA 0, 20, .inl (fun _ => 0))), (q20_21, .inl (cA 0, 20, .inl (fun _ => 0))), (q27_21, .inl (cA 0, 4, .inl (fun _ => 0))), (q35_21, .inl (cA 0, 30, .inl (fun _ => 0))), (q41_21, .inr (13, [.int 0, .ref x14, .int 0])), (q29, .inl (cA 0, 0, .inl (fun _ => 0)))]) F hP hD hS 0 rfl inX12 tyX12 tyX12_ok nmX12 rfl 3 (by decide) kw_1143 rfl rfl rfl rfl (Nat.le_of_ble_eq_true rfl) rfl dX12_init_31 (fun H locs hP hD hS => ?_)
  refine lv_aload_n hx hb dX12_init_34 rfl (lv_at hl 0 rfl) ?_
  refine sx_get F hP 0 rfl inX12 rfl 1 (by decide) kw_1140 rfl rfl dX12_init_35 ?_
  refine sx_get F hP 1 rfl inX8 rfl 0 (by decide) kw_985 rfl rfl dX12_init_38 ?_
  refine pt_ynew (ci := 10) (fs := [.int 0, .int 0, .int 0, .null, .null]) F hP hD hS hA inX10 tyX10 tyX10_ok kw_1046 kw_1047 kw_66 rfl (fun j hj => by rcases (show j = 0 ∨ j = 1 ∨ j = 2 ∨ j = 3 ∨ j = 4 by omega) with rfl | rfl | rfl | rfl | rfl <;> rfl) (Nat.le_trans (Nat.le_of_ble_eq_true rfl) s_cb) (Nat.le_trans (Nat.le_of_ble_eq_true rfl) s_sb) dX12_init_41 (fun q41 H hP hD hS => ?_)
  replace hP : va_P D pt_cl (([] : va_W) ++ [(a, .inr (12, [.int 0, .ref q5, .ref q16, .ref q29, .int 0])), (q5, .inr (8, [.ref q5_9, .ref q16_9])), (q5_9, .inr (13, [.int 0, .ref x14, .int 0])), (q16_9, .inr (13, [.int 0, .ref x14, .int 0])), (q16, .inr (9, [.int 0, .int 0, .ref q12_21, .ref q20_21, .ref q27_21, .ref q35_21, .ref q41_21, .int 0, .int 0, .int 0, .ref a])), (q12_21, .inl (cA 0, 20, .inl (fun _ => 0))), (q20_21, .inl (cA 0, 20, .inl (fun _ => 0))), (q27_21, .inl (cA 0, 4, .inl (fun _ => 0))), (q35_21, .inl (cA 0, 30, .inl (fun _ => 0))), (q41_21, .inr (13, [.int 0, .ref x14, .int 0])), (q29, .inl (cA 0, 0, .inl (fun _ => 0))), (q41, .inr (10, [.int 0, .int 0, .int 0, .null, .null]))]) H := hP
  replace hD : va_D (va_A [(a, .inr (12, [.int 0, .null, .null, .null, .int 0]))] s.heap.size) (([] : va_W) ++ [(a, .inr (12, [.int 0, .ref q5, .ref q16, .ref q29, .int 0])), (q5, .inr (8, [.ref q5_9, .ref q16_9])), (q5_9, .inr (13, [.int 0, .ref x14, .int 0])), (q16_9, .inr (13, [.int 0, .ref x14, .int 0])), (q16, .inr (9, [.int 0, .int 0, .ref q12_21, .ref q20_21, .ref q27_21, .ref q35_21, .ref q41_21, .int 0, .int 0, .int 0, .ref a])), (q12_21, .inl (cA 0, 20, .inl (fun _ => 0))), (q20_21, .inl (cA 0, 20, .inl (fun _ => 0))), (q27_21, .inl (cA 0, 4, .inl (fun _ => 0))), (q35_21, .inl (cA 0, 30, .inl (fun _ => 0))), (q41_21, .inr (13, [.int 0, .ref x14, .int 0])), (q29, .inl (cA 0, 0, .inl (fun _ => 0))), (q41, .inr (10, [.int 0, .int 0, .int 0, .null, .null]))]) := hD
  refine W.widen (k := 11) (n := 101) (Nat.le_of_ble_eq_true rfl) (Nat.le_of_ble_eq_true rfl) ?_
  refine lv_dup hx hb dX12_init_44 rfl ?_
  refine lv_iconst (v := (-1)) hx hb dX12_init_45 (by decide) ?_
  refine lv_iconst (v := 0) hx hb dX12_init_46 (by decide) ?_
  refine sx_callv (wc := [(q41, .inr (10, [.int 0, .int 0, .int 0, .null, .null]))]) (wr := [(a, .inr (12, [.int 0, .ref q5, .ref q16, .ref q29, .int 0])), (q5, .inr (8, [.ref q5_9, .ref q16_9])), (q5_9, .inr (13, [.int 0, .ref x14, .int 0])), (q16_9, .inr (13, [.int 0, .ref x14, .int 0])), (q16, .inr (9, [.int 0, .int 0, .ref q12_21, .ref q20_21, .ref q27_21, .ref q35_21, .ref q41_21, .int 0, .int 0, .int 0, .ref a])), (q12_21, .inl (cA 0, 20, .inl (fun _ => 0))), (q20_21, .inl (cA 0, 20, .inl (fun _ => 0))), (q27_21, .inl (cA 0, 4, .inl (fun _ => 0))), (q35_21, .inl (cA 0, 30, .inl (fun _ => 0))), (q41_21, .inr (13, [.int 0, .ref x14, .int 0])), (q29, .inl (cA 0, 0, .inl (fun _ => 0)))]) (pt_krun (n := 2) (As := [.int (-1), .int 0]) (rest := [.ref q41, .ref q5_9]) F (mtST l D cA _ x13 x14 q41 ((-1)) 0 ) sx_blind (sx_pre (wc := [(q41, .inr (10, [.int 0, .int 0, .int 0, .null, .null]))]) F hP hD hN hS hA [11] rfl rfl) kw_1050 (Or.inl kw_1048) kw_66 kw_1049 rfl ⟨by decide, by decide, by decide +kernel⟩ ⟨rfl, rfl, (Nat.le_of_ble_eq_true rfl), (Nat.le_of_ble_eq_true rfl)⟩ rfl hl.1 rfl (Nat.le_of_ble_eq_true rfl) dX12_init_47 ⟨(Nat.le_trans (Nat.le_of_ble_eq_true rfl) s_cb), (Nat.le_trans (Nat.le_of_ble_eq_true rfl) s_sb)⟩) hP hD hS hA [11] [0, 1, 2, 3, 4, 5, 6, 7, 8, 9, 10] rfl rfl rfl (by decide) (fun _ H locs _ hP hD hS => ?_)
  replace hP : va_P D pt_cl (([] : va_W) ++ [(a, .inr (12, [.int 0, .ref q5, .ref q16, .ref q29, .int 0])), (q5, .inr (8, [.ref q5_9, .ref q16_9])), (q5_9, .inr (13, [.int 0, .ref x14, .int 0])), (q16_9, .inr (13, [.int 0, .ref x14, .int 0])), (q16, .inr (9, [.int 0, .int 0, .ref q12_21, .ref q20_21, .ref q27_21, .ref q35_21, .ref q41_21, .int 0, .int 0, .int 0, .ref a])), (q12_21, .inl (cA 0, 20, .inl (fun _ => 0))), (q20_21, .inl (cA 0, 20, .inl (fun _ => 0))), (q27_21, .inl (cA 0, 4, .inl (fun _ => 0))), (q35_21, .inl (cA 0, 30, .inl (fun _ => 0))), (q41_21, .inr (13, [.int 0, .ref x14, .int 0])), (q29, .inl (cA 0, 0, .inl (fun _ => 0))), (q41, .inr (10, [.int (-1), .int 0, .int (-1), .ref x13, .ref x13]))]) H := hP
  replace hD : va_D (va_A [(a, .inr (12, [.int 0, .null, .null, .null, .int 0]))] s.heap.size) (([] : va_W) ++ [(a, .inr (12, [.int 0, .ref q5, .ref q16, .ref q29, .int 0])), (q5, .inr (8, [.ref q5_9, .ref q16_9])), (q5_9, .inr (13, [.int 0, .ref x14, .int 0])), (q16_9, .inr (13, [.int 0, .ref x14, .int 0])), (q16, .inr (9, [.int 0, .int 0, .ref q12_21, .ref q20_21, .ref q27_21, .ref q35_21, .ref q41_21, .int 0, .int 0, .int 0, .ref a])), (q12_21, .inl (cA 0, 20, .inl (fun _ => 0))), (q20_21, .inl (cA 0, 20, .inl (fun _ => 0))), (q27_21, .inl (cA 0, 4, .inl (fun _ => 0))), (q35_21, .inl (cA 0, 30, .inl (fun _ => 0))), (q41_21, .inr (13, [.int 0, .ref x14, .int 0])), (q29, .inl (cA 0, 0, .inl (fun _ => 0))), (q41, .inr (10, [.int (-1), .int 0, .int (-1), .ref x13, .ref x13]))]) := hD
  refine W.widen (k := 11) (n := 101) (Nat.le_of_ble_eq_true rfl) (Nat.le_of_ble_eq_true rfl) ?_
  refine sx_calli (wc := [(q5_9, .inr (13, [.int 0, .ref x14, .int 0])), (q41, .inr (10, [.int (-1), .int 0, .int (-1), .ref x13, .ref x13]))]) (wr := [(a, .inr (12, [.int 0, .ref q5, .ref q16, .ref q29, .int 0])), (q5, .inr (8, [.ref q5_9, .ref q16_9])), (q16_9, .inr (13, [.int 0, .ref x14, .int 0])), (q16, .inr (9, [.int 0, .int 0, .ref q12_21, .ref q20_21, .ref q27_21, .ref q35_21, .ref q41_21, .int 0, .int 0, .int 0, .ref a])), (q12_21, .inl (cA 0, 20, .inl (fun _ => 0))), (q20_21, .inl (cA 0, 20, .inl (fun _ => 0))), (q27_21, .inl (cA 0, 4, .inl (fun _ => 0))), (q35_21, .inl (cA 0, 30, .inl (fun _ => 0))), (q41_21, .inr (13, [.int 0, .ref x14, .int 0])), (q29, .inl (cA 0, 0, .inl (fun _ => 0)))]) (sx_runV (n := 1) (As := [.ref q41]) (rest := []) F hP 2 rfl rfl (mtA1f l D cA _ x13 x14 q5_9 q41 0 10 ([.int (-1), .int 0, .int (-1), .ref x13, .ref x13]) (show pt_cl[10]? = some (RX10, TX10, 5) from rfl) kw_1655) sx_blind (sx_pre (wc := [(q5_9, .inr (13, [.int 0, .ref x14, .int 0])), (q41, .inr (10, [.int (-1), .int 0, .int (-1), .ref x13, .ref x13]))]) F hP hD hN hS hA [2, 11] rfl rfl) kw_1083 kw_1080 kw_64 kw_1081 kw_1082 ⟨by decide, by decide, by decide +kernel⟩ ⟨rfl, rfl, (Nat.le_of_ble_eq_true rfl), (Nat.le_of_ble_eq_true rfl)⟩ rfl hl.1 rfl (Nat.le_of_ble_eq_true rfl) dX12_init_50 ⟨(Nat.le_trans (Nat.le_of_ble_eq_true rfl) s_cb), (Nat.le_trans (Nat.le_of_ble_eq_true rfl) s_sb)⟩) hP hD hS hA [2, 11] [0, 1, 3, 4, 5, 6, 7, 8, 9, 10] rfl rfl rfl (by decide) (fun r_50 q52_7_7_20_50 H locs e_50 hP hD hS => ?_)
  obtain rfl := e_50
  replace hP : va_P D pt_cl (([] : va_W) ++ [(a, .inr (12, [.int 0, .ref q5, .ref q16, .ref q29, .int 0])), (q5, .inr (8, [.ref q5_9, .ref q16_9])), (q16_9, .inr (13, [.int 0, .ref x14, .int 0])), (q16, .inr (9, [.int 0, .int 0, .ref q12_21, .ref q20_21, .ref q27_21, .ref q35_21, .ref q41_21, .int 0, .int 0, .int 0, .ref a])), (q12_21, .inl (cA 0, 20, .inl (fun _ => 0))), (q20_21, .inl (cA 0, 20, .inl (fun _ => 0))), (q27_21, .inl (cA 0, 4, .inl (fun _ => 0))), (q35_21, .inl (cA 0, 30, .inl (fun _ => 0))), (q41_21, .inr (13, [.int 0, .ref x14, .int 0])), (q29, .inl (cA 0, 0, .inl (fun _ => 0))), (q41, .inr (10, [q41, s])), (q5_9, .inr (13, [.int (0 + 1), .ref q52_7_7_20_50, .int (0 + 1)])), (q52_7_7_20_50, .inl (cA 4, 10, .inr (.inr (.inr (.inr (fun i => if i = 0 then some q41 else none))))))]) H := hP
  replace hD : va_D (va_A [(a, .inr (12, [.int 0, .null, .null, .null, .int 0]))] s.heap.size) (([] : va_W) ++ [(a, .inr (12, [.int 0, .ref q5, .ref q16, .ref q29, .int 0])), (q5, .inr (8, [.ref q5_9, .ref q16_9])), (q16_9, .inr (13, [.int 0, .ref x14, .int 0])), (q16, .inr (9, [.int 0, .int 0, .ref q12_21, .ref q20_21, .ref q27_21, .ref q35_21, .ref q41_21, .int 0, .int 0, .int 0, .ref a])), (q12_21, .inl (cA 0, 20, .inl (fun _ => 0))), (q20_21, .inl (cA 0, 20, .inl (fun _ => 0))), (q27_21, .inl (cA 0, 4, .inl (fun _ => 0))), (q35_21, .inl (cA 0, 30, .inl (fun _ => 0))), (q41_21, .inr (13, [.int 0, .ref x14, .int 0])), (q29, .inl (cA 0, 0, .inl (fun _ => 0))), (q41, .inr (10, [q41, s])), (q5_9, .inr (13, [.int (0 + 1), .ref q52_7_7_20_50, .int (0 + 1)])), (q52_7_7_20_50, .inl (cA 4, 10, .inr (.inr (.inr (.inr (fun i => if i = 0 then some q41 else none))))))]) := hD
  refine W.widen (k := 12) (n := 111) (Nat.le_of_ble_eq_true rfl) (Nat.le_of_ble_eq_true rfl) ?_
  refine lv_pop hx hb dX12_init_53 rfl ?_
  exact W.vret hx hb hr (fun t ht hW => ⟨⟨(q5, q5_9, q16_9, q16, q12_21, q20_21, q27_21, q35_21, q41_21, q29, q41, q52_7_7_20_50), rfl, trivial, ⟨by rw [ht]; exact hP, hD⟩⟩, hS.F ht⟩) hS.2.2 dX12_init_54
end
section
/-! what taken makes: a list that is new and empty, beside the objects -/
def rt_L (D : va_G) (cA : Nat → ClassId) (ad : Nat → Nat) (sz q : Nat) (M : pt_M) (H : Heap) : Prop := va_P D pt_cl (rt_W cA ad M) H ∧ va_P D pt_cl [(q, .inr (13, [.int 0, .ref (ad 14), .int 0]))] H ∧ (∀ i, i < 13 → ad i ≠ q) ∧ sz ≤ q
theorem rt_Lmk {D : va_G} {cA : Nat → ClassId} {ad : Nat → Nat} {sz q : Nat} {M : pt_M} {H : Heap} (h1 : va_P D pt_cl (rt_W cA ad M) H) (h2 : va_P D pt_cl [(q, .inr (13, [.int 0, .ref (ad 14), .int 0]))] H) (h3 : va_D (rt_fr ad sz) (rt_W cA ad M ++ [(q, .inr (13, [.int 0, .ref (ad 14), .int 0]))])) : rt_L D cA ad sz q M H := by
  have hne : ∀ i, i < 13 → ad i ≠ q := fun i hi e => by
    have := h3.1 i 13 (ad i, rt_cel cA ad i (M i)) (q, .inr (13, [.int 0, .ref (ad 14), .int 0])) (by rw [List.getElem?_append_left (by simpa [rt_W] using hi)]; exact rt_W_get hi) rfl e
    omega
  refine ⟨h1, h2, hne, ?_⟩
  rcases h3.2 13 _ rfl with ⟨i, hi, e⟩ | h
  · exact absurd e.symm (hne i hi)
  · exact h
theorem rt_Lk {D : va_G} {ad : Nat → Nat} {q : Nat} {w : va_E} {H H1 : Heap} (h : va_P D pt_cl [(q, w)] H) (hq : ∀ i, i < 13 → ad i ≠ q) (ho : ∀ r : Nat, r < H.size → ¬ rt_fr ad H.size r → H1[r]? = H[r]?) : va_P D pt_cl [(q, w)] H1 := by
  intro k x hk
  have hlt := (h k x hk).lt
  have hx : x.1 = q := by
    match k, hk with
    | 0, hk => cases hk; rfl
    | k + 1, hk => simp at hk
  exact (h k x hk).kept (ho x.1 hlt (fun z => by
    rcases z with ⟨i, hi, e⟩ | z
    · exact hq i hi (e.symm.trans hx)
    · omega))
section RTL
variable {p : Program} {l : Launch} {e : Env} {R : Room} {s : State} {m : MethodId} {args : Array Value} {below : List Frame} {meth : Method} {c : Code} {H : Heap} {locs : List Loc} {cells slots : Nat} {Q : State → Prop}
variable {cc : ByteArray} {pc nL : Nat} {ls : Array Slot} {rest st : List Value} {D : va_G} {A : Nat → Prop} {cA : Nat → ClassId} {ad : Nat → Nat} {M : pt_M} {H0 : Heap} {own : String} {k sz q : Nat} {a : Array Value} {mc ms : Nat}
theorem rt_runVm (F : pt_F p m c cc nL s args own D cA) (hP : va_P D pt_cl (rt_W cA ad M) H) (hN : rt_Zs (ad 13) (ad 14) A s s.heap) (hS : va_S A s.heap H locs) (hA : ∀ q, rt_fr ad H.size q → A q) {ci : Nat} {fs As : List Value} (hc : rt_cel cA ad k (M k) = .inr (ci, fs)) (hk : k < 13) {C : String} {T : u_T} {N : Nat} (hcl : pt_cl[ci]? = some (C, T, N)) {y : MethodName} {bytes : ByteArray} {maxL index n : Nat} {ret : Option FieldType} {rm : Room} {Qc : Array Value → State → Outcome → State → Prop} {free : Addr → Prop}
    (hM : Met l y (Cond.code y bytes maxL ret :: lw_all) rm (va_Pc (.ref (ad k) :: As) (rt_P D cA ad H.size M)) Qc mc ms free) (h1 : Cond.code y bytes maxL ret ∈ lw_all) (h2 : Cond.methodLink own index y ∈ lw_all) (h5 : Cond.initialized y.cls ∈ lw_all) (h3 : Cond.instanceMethod y ∈ lw_all) (h4 : Cond.selects C y y ∈ lw_all) (hd : y.cls ≠ "java/lang/invoke/MethodHandle" ∧ y.cls ≠ "java/lang/invoke/VarHandle" ∧ (parseMethodDescriptor y.desc).map (fun d => d.parameters.length) = some n) (hrm : rm.cells = mc ∧ rm.slots = ms ∧ rm.frames + 1 ≤ R.frames ∧ 8 + (maxL + 11) + rm.locals ≤ R.locals)
    (hn : As.length = n) (hsz : ls.size = nL) (hst : st = As.reverse ++ .ref (ad k) :: rest) (hW : (rest.map fun v => v.category).sum ≤ 8) (hdg : decode cc pc = .ok (.invokevirtual index, 3)) (hcs : cells + mc ≤ R.cells ∧ slots + ms ≤ R.slots) :
    va_Run p l e R s m args below meth c H locs cells slots mc ms (F0 m pc ls st) rest (Qc (Value.ref (ad k) :: As).toArray) free :=
  va_runV (C := C) (b := ad k) (As := As) (rest := rest) F.1 hM ⟨pt_B0 F h1 h2 h5 hd hrm, F.1.2.2.2.2 _ h3, F.1.2.2.2.2 _ h4⟩ ⟨rt_blind, va_recv F.2 hP (ci := ci) (q0 := k) hcl (by rw [rt_W_get hk, hc]), rt_pre F hP hN hS hA⟩ rfl hn hsz hst (lv_room hW) hdg hcs
theorem rt_callim {Qi : Int32 → pt_M → Prop} (hr : va_Run p l e R s m args below meth c H locs cells slots mc ms (F0 m pc ls st) rest (va_Qi Qi (rt_B D cA ad) (rt_fr ad H.size) a) (rt_fr ad H.size)) (hS : va_S A H0 H locs) (hA : ∀ q, rt_fr ad H0.size q → A q)
    (kk : ∀ (r : Int32) (M1 : pt_M) (H1 : Heap) (locs1 : List Loc), Qi r M1 → va_P D pt_cl (rt_W cA ad M1) H1 → va_S A H0 H1 locs1 → H.size ≤ H1.size → (∀ q : Nat, q < H.size → ¬ rt_fr ad H.size q → H1[q]? = H[q]?) → W p l e R s m args below meth c H1 locs1 (cells + mc) (slots + ms) Q (F0 m (pc + 3) ls (.int r :: rest))) : W p l e R s m args below meth c H locs cells slots Q (F0 m pc ls st) :=
  va_calli hr hS (rt_frA hS hA).1 (rt_frA hS hA).2 (fun r M1 t H1 locs1 ht _ hq hB hz ho hS1 => kk r M1 H1 locs1 hq (by rw [← ht]; exact hB) hS1 hz ho)
theorem rt_callT {Qi : pt_M → Prop} (hr : va_Run p l e R s m args below meth c H locs cells slots mc ms (F0 m pc ls st) rest (va_Qr Qi (fun M q t => rt_L D cA ad H.size q M t.heap) (rt_fr ad H.size) a) (rt_fr ad H.size)) (hS : va_S A H0 H locs) (hA : ∀ q, rt_fr ad H0.size q → A q)
    (kk : ∀ (q : Nat) (M1 : pt_M) (H1 : Heap) (locs1 : List Loc), Qi M1 → rt_L D cA ad H0.size q M1 H1 → va_S A H0 H1 locs1 → W p l e R s m args below meth c H1 locs1 (cells + mc) (slots + ms) Q (F0 m (pc + 3) ls (.ref q :: rest))) : W p l e R s m args below meth c H locs cells slots Q (F0 m pc ls st) :=
  va_callr hr hS (rt_frA hS hA).1 (rt_frA hS hA).2 (fun M1 ra t H1 locs1 ht _ hq hB hz ho hS1 => kk ra M1 H1 locs1 hq (by rw [← ht]; exact ⟨hB.1, hB.2.1, hB.2.2.1, Nat.le_trans hS.1 hB.2.2.2⟩) hS1)
theorem rt_calliL (hP : rt_L D cA ad sz q M H) {Qi : Int32 → pt_M → Prop} (hr : va_Run p l e R s m args below meth c H locs cells slots 0 0 (F0 m pc ls st) rest (va_Qi Qi (rt_B D cA ad) (rt_fr ad H.size) a) (rt_fr ad H.size)) (hS : va_S A H0 H locs) (hA : ∀ q, rt_fr ad H0.size q → A q)
    (kk : ∀ (r : Int32) (M1 : pt_M) (H1 : Heap) (locs1 : List Loc), Qi r M1 → rt_L D cA ad sz q M1 H1 → va_S A H0 H1 locs1 → H.size ≤ H1.size → (∀ q : Nat, q < H.size → ¬ rt_fr ad H.size q → H1[q]? = H[q]?) → W p l e R s m args below meth c H1 locs1 cells slots Q (F0 m (pc + 3) ls (.int r :: rest))) : W p l e R s m args below meth c H locs cells slots Q (F0 m pc ls st) :=
  rt_calli hr hS hA (fun r M1 H1 locs1 hq hP1 hS1 hz ho => kk r M1 H1 locs1 hq ⟨hP1, rt_Lk hP.2.1 hP.2.2.1 ho, hP.2.2⟩ hS1 hz ho)
theorem rt_callvL (hP : rt_L D cA ad sz q M H) {Qi : pt_M → Prop} (hr : va_Run p l e R s m args below meth c H locs cells slots 0 0 (F0 m pc ls st) rest (va_Qv Qi (rt_B D cA ad) (rt_fr ad H.size) a) (rt_fr ad H.size)) (hS : va_S A H0 H locs) (hA : ∀ q, rt_fr ad H0.size q → A q)
    (kk : ∀ (M1 : pt_M) (H1 : Heap) (locs1 : List Loc), Qi M1 → rt_L D cA ad sz q M1 H1 → va_S A H0 H1 locs1 → H.size ≤ H1.size → (∀ q : Nat, q < H.size → ¬ rt_fr ad H.size q → H1[q]? = H[q]?) → W p l e R s m args below meth c H1 locs1 cells slots Q (F0 m (pc + 3) ls rest)) : W p l e R s m args below meth c H locs cells slots Q (F0 m pc ls st) :=
  rt_callv hr hS hA (fun M1 H1 locs1 hq hP1 hS1 hz ho => kk M1 H1 locs1 hq ⟨hP1, rt_Lk hP.2.1 hP.2.2.1 ho, hP.2.2⟩ hS1 hz ho)
theorem rt_call4L (hP : rt_L D cA ad sz q M H) {Qi : pt_M → Prop} (hr : va_Run p l e R s m args below meth c H locs cells slots 0 0 (F0 m pc ls st) rest (va_Qr Qi (rt_BR D cA ad) (rt_fr ad H.size) a) (rt_fr ad H.size)) (hS : va_S A H0 H locs) (hA : ∀ q, rt_fr ad H0.size q → A q)
    (kk : ∀ (M1 : pt_M) (H1 : Heap) (locs1 : List Loc), Qi M1 → rt_L D cA ad sz q M1 H1 → va_S A H0 H1 locs1 → H.size ≤ H1.size → (∀ q : Nat, q < H.size → ¬ rt_fr ad H.size q → H1[q]? = H[q]?) → W p l e R s m args below meth c H1 locs1 cells slots Q (F0 m (pc + 3) ls (.ref (ad 4) :: rest))) : W p l e R s m args below meth c H locs cells slots Q (F0 m pc ls st) :=
  rt_call4 hr hS hA (fun M1 H1 locs1 hq hP1 hS1 hz ho => kk M1 H1 locs1 hq ⟨hP1, rt_Lk hP.2.1 hP.2.2.1 ho, hP.2.2⟩ hS1 hz ho)
theorem rt_callpL {Qi : Int32 → Prop} {a : Array Value} (hr : va_Run p l e R s m args below meth c H locs cells slots 0 0 (F0 m pc ls st) rest (va_Qi (fun r (_ : Unit) => Qi r) (fun _ _ => True) (fun _ => False) a) (fun _ => False)) (hP : rt_L D cA ad sz q M H) (hS : va_S A H0 H locs)
    (kk : ∀ (r : Int32) (H1 : Heap) (locs1 : List Loc), Qi r → rt_L D cA ad sz q M H1 → va_S A H0 H1 locs1 → W p l e R s m args below meth c H1 locs1 cells slots Q (F0 m (pc + 3) ls (.int r :: rest))) : W p l e R s m args below meth c H locs cells slots Q (F0 m pc ls st) :=
  va_calli hr hS (fun _ _ h => h.elim) (fun _ h => h.elim) (fun r u t H1 locs1 ht _ hq _ hz ho hS1 => kk r H1 locs1 hq ⟨fun k q hk => (hP.1 k q hk).kept (ho q.1 (hP.1 k q hk).lt id), fun k q hk => (hP.2.1 k q hk).kept (ho q.1 (hP.2.1 k q hk).lt id), hP.2.2⟩ hS1)
end RTL
theorem rt_szblind {D : va_G} {cA : Nat → ClassId} {Y : va_W} {As : List Value} : FrameBlind (va_Pc As (fun U => va_P D pt_cl Y U.heap ∧ va_K D pt_cl (pt_T cA) U)) := fun a U g mk q => ⟨q.1, q.2.1, va_K.moved (u := U) (U := U.calling g mk a) (Vm.Alike.refl U.vm) q.2.2⟩
set_option maxHeartbeats 4000000 in
set_option maxRecDepth 100000 in
theorem mtSZ0 (l : Launch) (D : va_G) (cA : Nat → ClassId) (q : Nat) (k : Int32) (e0 : Nat) (n : Int32) : Met l yJx4a65c_size_8abf5 (Cond.code yJx4a65c_size_8abf5 cJx4a65c_size_8abf5 1 (some .int) :: lw_all) ({ frames := 0, cells := 0, slots := 0, locals := 0 } : Room) (va_Pc [.ref q] (fun U => va_P D pt_cl [(q, .inr (13, [.int k, .ref e0, .int n]))] U.heap ∧ va_K D pt_cl (pt_T cA) U)) (va_Qi (fun (r : Int32) (_ : Unit) => r = n) (fun _ _ => True) (fun _ => False)) 0 0 (fun _ => False) := by
  refine Met.ofW (cc := cJx4a65c_size_8abf5) (maxL := 1) (ret := (some .int)) (by decide) rfl ?_
  intro p e s m args below meth c s₁ B hml hv
  obtain ⟨rfl, hP, hK⟩ := hv
  have hx := B.exec
  have hb := B.bytes
  have hr := B.returns
  have hts0 := atoms_spec (ws := (Cond.code yJx4a65c_size_8abf5 cJx4a65c_size_8abf5 1 (some .int) :: lw_all)) B.pre
  have hown : s.vm.findClass RJx4a65c = some m.cls := findClass_of_methodNamed B.named
  have hlocks := B.notSynchronized
  have F : pt_F p m c cJx4a65c_size_8abf5 1 s _ RJx4a65c D cA := ⟨⟨hx, hb, hml, hown, fun w h => hts0 w (List.mem_cons_of_mem _ h)⟩, hK⟩
  replace hP : va_P D pt_cl (([] : va_W) ++ [(q, .inr (13, [.int k, .ref e0, .int n]))]) s.heap := hP
  have hS : va_S (fun _ => False) s.heap s.heap [] := va_S.rf
  have hl := lv_entry ([.ref q]) (n := 1) (Nat.le_of_ble_eq_true rfl)
  rw [lg_entry_eq]
  generalize (lg_sl ([.ref q]) ++ List.replicate (1 - (lg_sl ([.ref q])).length) Slot.unset).toArray = ls at hl ⊢
  have hl : lv_has ls 1 [(0, .ref q)] := hl
  refine lv_aload_n hx hb dJx4a65c_size_8abf5_0 rfl (lv_at hl 0 rfl) ?_
  refine sx_get F hP 0 rfl inX13 rfl 2 (by decide) kw_973 rfl rfl dJx4a65c_size_8abf5_1 ?_
  exact W.iret (v := n) hx hb hr (fun t ht hW => ⟨⟨_, (), rfl, rfl, trivial⟩, hS.F ht⟩) (fun q hq => absurd hq List.not_mem_nil) dJx4a65c_size_8abf5_4
end
section
-- ===== X12_addState
def wjX12_addState_105 (p1 : Int32) (p2 : Int32) (Q : Int32 → pt_M → Prop)  (xs1 : Int32) (M : pt_M) : Prop :=
  wpX12_refuse xs1 3 M (fun (r_106 : Int32) (M_106 : pt_M) => (r_106 = 0 → M_106 2 2 = 1 ∧ Q (((1 + 1) - 1)) M_106) ∧ (¬ r_106 = 0 → Q 0 M_106))
def wjX12_addState_104 (p1 : Int32) (p2 : Int32) (Q : Int32 → pt_M → Prop)   (M : pt_M) : Prop :=
  wjX12_addState_105 p1 p2 Q 0 M
def wjX12_addState_100 (p1 : Int32) (p2 : Int32) (Q : Int32 → pt_M → Prop)   (M : pt_M) : Prop :=
  wjX12_addState_105 p1 p2 Q 1 M
def wjX12_addState_51 (p1 : Int32) (p2 : Int32) (Q : Int32 → pt_M → Prop)   (M : pt_M) : Prop :=
  Q 0 M
def wjX12_addState_31 (p1 : Int32) (p2 : Int32) (Q : Int32 → pt_M → Prop)  (xs1 : Int32) (M : pt_M) : Prop :=
  wpX12_start xs1 1 M (fun (r_32 : Int32) (M_32 : pt_M) => (¬ r_32 = 0 → wjX12_addState_51 p1 p2 Q M_32) ∧ (r_32 = 0 → wpX12_isNoState p1 M_32 (fun (r_41 : Int32) (M_41 : pt_M) => wpX12_refuse r_41 2 M_41 (fun (r_45 : Int32) (M_45 : pt_M) => (r_45 = 0 → wpX12_isIn p2 0 4 M_45 (fun (r_57 : Int32) (M_57 : pt_M) => (r_57 = 0 → wjX12_addState_100 p1 p2 Q M_57) ∧ (¬ r_57 = 0 → wpJx4a65c_get_915e3 p1 M_57 (fun (M_71 : pt_M) => wpX10_isOpen M_71 (fun (r_77 : Int32) (M_77 : pt_M) => (r_77 = 0 → wjX12_addState_100 p1 p2 Q M_77) ∧ (¬ r_77 = 0 → (¬ p2 = 2 → wjX12_addState_104 p1 p2 Q M_77) ∧ (p2 = 2 → wpX8_kind p1 M_77 (fun (r_93 : Int32) (M_93 : pt_M) => (¬ r_93 = 1 → wjX12_addState_104 p1 p2 Q M_93) ∧ (r_93 = 1 → wjX12_addState_100 p1 p2 Q M_93))))))))) ∧ (¬ r_45 = 0 → wjX12_addState_51 p1 p2 Q M_45)))))
def wjX12_addState_26 (p1 : Int32) (p2 : Int32) (Q : Int32 → pt_M → Prop)   (M : pt_M) : Prop :=
  wjX12_addState_31 p1 p2 Q 1 M
def wpX12_addState (p1 : Int32) (p2 : Int32) (M : pt_M) (Q : Int32 → pt_M → Prop) : Prop :=
  (¬ (M 6 0) = 0 → wjX12_addState_26 p1 p2 Q M) ∧ ((M 6 0) = 0 → wpJx4a65c_size_8abf5 2 M (fun (r_18 : Int32) (M_18 : pt_M) => (¬ r_18 = 20 → wjX12_addState_31 p1 p2 Q 0 M_18) ∧ (r_18 = 20 → wjX12_addState_26 p1 p2 Q M_18)))
set_option maxHeartbeats 4000000 in
set_option maxRecDepth 100000 in
theorem mtX12_addState (l : Launch) (D : va_G) (cA : Nat → ClassId) (ad : Nat → Nat) (hI : rt_I ad) (sz : Nat) (p1 : Int32) (p2 : Int32) (M : pt_M) (Q : Int32 → pt_M → Prop) (hw : wpX12_addState p1 p2 M Q) : Met l yX12_addState (Cond.code yX12_addState cX12_addState 3 (some .int) :: lw_all) ({ frames := 4, cells := 1, slots := 5, locals := 85 } : Room) (va_Pc [.ref (ad 0), .int p1, .int p2] (rt_P D cA ad sz M)) (va_Qi Q (fun (_ : pt_M) (_ : State) => True) (rt_fr ad sz)) 1 5 (rt_fr ad sz) := by
  refine Met.ofW (cc := cX12_addState) (maxL := 3) (ret := (some .int)) (by decide) rfl ?_
  intro p e s m args below meth c s₁ B hml hv
  obtain ⟨rfl, hsz, hP, hK, hN⟩ := hv
  have hx := B.exec
  have hb := B.bytes
  have hr := B.returns
  have hts0 := atoms_spec (ws := (Cond.code yX12_addState cX12_addState 3 (some .int) :: lw_all)) B.pre
  have hown : s.vm.findClass RX12 = some m.cls := findClass_of_methodNamed B.named
  have hlocks := B.notSynchronized
  subst hsz
  have F : pt_F p m c cX12_addState 3 s _ RX12 D cA := ⟨⟨hx, hb, hml, hown, fun w h => hts0 w (List.mem_cons_of_mem _ h)⟩, hK⟩
  have hD : ∀ M, va_D (rt_fr ad s.heap.size) (rt_W cA ad M) := rt_D hI (fun k h => Or.inl ⟨k, h, rfl⟩)
  have hS : va_S (rt_fr ad s.heap.size) s.heap s.heap [] := va_S.rf
  have hl := lv_entry ([.ref (ad 0), .int p1, .int p2]) (n := 3) (Nat.le_of_ble_eq_true rfl)
  rw [lg_entry_eq]
  generalize (lg_sl ([.ref (ad 0), .int p1, .int p2]) ++ List.replicate (3 - (lg_sl ([.ref (ad 0), .int p1, .int p2])).length) Slot.unset).toArray = ls at hl ⊢
  have hl : lv_has ls 3 [(0, .ref (ad 0)), (1, .int p1), (2, .int p2)] := hl
  have J105 : ∀ (xs1 : Int32) (M : pt_M) (H : Heap) (locs : List Loc) (ls : Array Slot), wjX12_addState_105 p1 p2 Q xs1 M → va_P D pt_cl (rt_W cA ad M) H → va_S (rt_fr ad s.heap.size) s.heap H locs → lv_has ls 3 [(0, .ref (ad 0)), (1, .int p1), (2, .int p2)] → W p l e (headSpec (Cond.code yX12_addState cX12_addState 3 (some .int) :: lw_all) ({ frames := 4, cells := 1, slots := 5, locals := 85 } : Room)).room s m ([.ref (ad 0), .int p1, .int p2] : List Value).toArray below meth c H locs 0 0 (MQ below (va_Qi Q (fun (_ : pt_M) (_ : State) => True) (rt_fr ad s.heap.size)) ([.ref (ad 0), .int p1, .int p2] : List Value).toArray s 1 5 (rt_fr ad s.heap.size)) (F0 m 105 ls [.int xs1, .ref (ad 0)]) := by
    intro xs1 M H locs ls hw hP hS hl
    unfold wjX12_addState_105 at hw
    refine lv_iconst (v := 3) hx hb dX12_addState_105 (by decide) ?_
    refine rt_calli (rt_runV (n := 2) (As := [.int xs1, .int 3]) (rest := []) F hP hN hS (rt_frs hS.1) (rt_c12 _ rt_k0) (rt_l12 rt_k0) rfl (mtX12_refuse l D cA ad hI _ xs1 3 M _ hw) kw_1175 kw_1172 kw_60 kw_1174 kw_29 ⟨by decide, by decide, by decide +kernel⟩ ⟨rfl, rfl, Nat.le_of_ble_eq_true rfl, Nat.le_of_ble_eq_true rfl⟩ rfl hl.1 rfl (Nat.le_of_ble_eq_true rfl) dX12_addState_106 ⟨Nat.zero_le _, Nat.zero_le _⟩) hS (fun _ h => h) (fun r_106 M_106 H locs hw hP hS _ _ => ?_)
    refine lv_if_eq (tgt := 114) hx hb dX12_addState_109 (by decide) (fun hc109 => ?_) (fun hc109 => ?_)
    · replace hw := hw.1 hc109
      refine lv_aload_n hx hb dX12_addState_114 rfl (lv_at hl 0 rfl) ?_
      refine rt_get F hP (rt_c12 _ rt_k0) (rt_l12 rt_k0) inX12 rfl 1 (by decide) kw_1140 rfl rfl dX12_addState_115 ?_
      refine rt_get F hP (rt_c8 _ rt_k1) (rt_l8 rt_k1) inX8 rfl 0 (by decide) kw_985 rfl rfl dX12_addState_118 ?_
      have h0 := hw.1
      replace hw := hw.2
      replace hP := (show ∀ n : Int32, n = M_106 2 2 → va_P D pt_cl (([] : va_W) ++ [((ad 0), .inr (12, [.int (M_106 0 0), .ref (ad 1), .ref (ad 6), .ref (ad 12), .int (M_106 0 4)])), ((ad 1), .inr (8, [.ref (ad 2), .ref (ad 5)])), ((ad 2), .inr (13, [.int (M_106 2 0), .ref (ad 3), .int n])), ((ad 3), .inl (cA 4, 10, .inr (.inr (.inr (.inr (fun i => if i = 0 then some (ad 4) else none)))))), ((ad 4), .inr (10, [.int (M_106 4 0), .int (M_106 4 1), .int (M_106 4 2), .ref (ad 13), .ref (ad 13)])), ((ad 5), .inr (13, [.int (M_106 5 0), .ref (ad 14), .int (M_106 5 2)])), ((ad 6), .inr (9, [.int (M_106 6 0), .int (M_106 6 1), .ref (ad 7), .ref (ad 8), .ref (ad 9), .ref (ad 10), .ref (ad 11), .int (M_106 6 7), .int (M_106 6 8), .int (M_106 6 9), .ref (ad 0)])), ((ad 7), .inl (cA 0, 20, .inl (M_106 7))), ((ad 8), .inl (cA 0, 20, .inl (M_106 8))), ((ad 9), .inl (cA 0, 4, .inl (M_106 9))), ((ad 10), .inl (cA 0, 30, .inl (M_106 10))), ((ad 11), .inr (13, [.int (M_106 11 0), .ref (ad 14), .int (M_106 11 2)])), ((ad 12), .inl (cA 0, 0, .inl (M_106 12)))]) H from fun n e => by subst e; exact hP) 1 h0.symm
      replace hD := (show ∀ n : Int32, n = M_106 2 2 → va_D (rt_fr ad s.heap.size) (([] : va_W) ++ [((ad 0), .inr (12, [.int (M_106 0 0), .ref (ad 1), .ref (ad 6), .ref (ad 12), .int (M_106 0 4)])), ((ad 1), .inr (8, [.ref (ad 2), .ref (ad 5)])), ((ad 2), .inr (13, [.int (M_106 2 0), .ref (ad 3), .int n])), ((ad 3), .inl (cA 4, 10, .inr (.inr (.inr (.inr (fun i => if i = 0 then some (ad 4) else none)))))), ((ad 4), .inr (10, [.int (M_106 4 0), .int (M_106 4 1), .int (M_106 4 2), .ref (ad 13), .ref (ad 13)])), ((ad 5), .inr (13, [.int (M_106 5 0), .ref (ad 14), .int (M_106 5 2)])), ((ad 6), .inr (9, [.int (M_106 6 0), .int (M_106 6 1), .ref (ad 7), .ref (ad 8), .ref (ad 9), .ref (ad 10), .ref (ad 11), .int (M_106 6 7), .int (M_106 6 8), .int (M_106 6 9), .ref (ad 0)])), ((ad 7), .inl (cA 0, 20, .inl (M_106 7))), ((ad 8), .inl (cA 0, 20, .inl (M_106 8))), ((ad 9), .inl (cA 0, 4, .inl (M_106 9))), ((ad 10), .inl (cA 0, 30, .inl (M_106 10))), ((ad 11), .inr (13, [.int (M_106 11 0), .ref (ad 14), .int (M_106 11 2)])), ((ad 12), .inl (cA 0, 0, .inl (M_106 12)))]) from fun n e => by subst e; exact hD M_106) 1 h0.symm
      have hA : ∀ q, s.heap.size ≤ q → rt_fr ad s.heap.size q := fun q h => Or.inr h
      have s_cb : 1 ≤ (headSpec (Cond.code yX12_addState cX12_addState 3 (some .int) :: lw_all) ({ frames := 4, cells := 1, slots := 5, locals := 85 } : Room)).room.cells := (Nat.le_of_ble_eq_true rfl)
      have s_sb : 5 ≤ (headSpec (Cond.code yX12_addState cX12_addState 3 (some .int) :: lw_all) ({ frames := 4, cells := 1, slots := 5, locals := 85 } : Room)).room.slots := (Nat.le_of_ble_eq_true rfl)
      refine pt_ynew (ci := 10) (fs := [.int 0, .int 0, .int 0, .null, .null]) F hP hD hS hA inX10 tyX10 tyX10_ok kw_1046 kw_1047 kw_66 rfl (fun j hj => by rcases (show j = 0 ∨ j = 1 ∨ j = 2 ∨ j = 3 ∨ j = 4 by omega) with rfl | rfl | rfl | rfl | rfl <;> rfl) (Nat.le_trans (Nat.le_of_ble_eq_true rfl) s_cb) (Nat.le_trans (Nat.le_of_ble_eq_true rfl) s_sb) dX12_addState_121 (fun q121 H hP hD hS => ?_)
      replace hP : va_P D pt_cl (([] : va_W) ++ [((ad 0), .inr (12, [.int (M_106 0 0), .ref (ad 1), .ref (ad 6), .ref (ad 12), .int (M_106 0 4)])), ((ad 1), .inr (8, [.ref (ad 2), .ref (ad 5)])), ((ad 2), .inr (13, [.int (M_106 2 0), .ref (ad 3), .int 1])), ((ad 3), .inl (cA 4, 10, .inr (.inr (.inr (.inr (fun i => if i = 0 then some (ad 4) else none)))))), ((ad 4), .inr (10, [.int (M_106 4 0), .int (M_106 4 1), .int (M_106 4 2), .ref (ad 13), .ref (ad 13)])), ((ad 5), .inr (13, [.int (M_106 5 0), .ref (ad 14), .int (M_106 5 2)])), ((ad 6), .inr (9, [.int (M_106 6 0), .int (M_106 6 1), .ref (ad 7), .ref (ad 8), .ref (ad 9), .ref (ad 10), .ref (ad 11), .int (M_106 6 7), .int (M_106 6 8), .int (M_106 6 9), .ref (ad 0)])), ((ad 7), .inl (cA 0, 20, .inl (M_106 7))), ((ad 8), .inl (cA 0, 20, .inl (M_106 8))), ((ad 9), .inl (cA 0, 4, .inl (M_106 9))), ((ad 10), .inl (cA 0, 30, .inl (M_106 10))), ((ad 11), .inr (13, [.int (M_106 11 0), .ref (ad 14), .int (M_106 11 2)])), ((ad 12), .inl (cA 0, 0, .inl (M_106 12))), (q121, .inr (10, [.int 0, .int 0, .int 0, .null, .null]))]) H := hP
      replace hD : va_D (rt_fr ad s.heap.size) (([] : va_W) ++ [((ad 0), .inr (12, [.int (M_106 0 0), .ref (ad 1), .ref (ad 6), .ref (ad 12), .int (M_106 0 4)])), ((ad 1), .inr (8, [.ref (ad 2), .ref (ad 5)])), ((ad 2), .inr (13, [.int (M_106 2 0), .ref (ad 3), .int 1])), ((ad 3), .inl (cA 4, 10, .inr (.inr (.inr (.inr (fun i => if i = 0 then some (ad 4) else none)))))), ((ad 4), .inr (10, [.int (M_106 4 0), .int (M_106 4 1), .int (M_106 4 2), .ref (ad 13), .ref (ad 13)])), ((ad 5), .inr (13, [.int (M_106 5 0), .ref (ad 14), .int (M_106 5 2)])), ((ad 6), .inr (9, [.int (M_106 6 0), .int (M_106 6 1), .ref (ad 7), .ref (ad 8), .ref (ad 9), .ref (ad 10), .ref (ad 11), .int (M_106 6 7), .int (M_106 6 8), .int (M_106 6 9), .ref (ad 0)])), ((ad 7), .inl (cA 0, 20, .inl (M_106 7))), ((ad 8), .inl (cA 0, 20, .inl (M_106 8))), ((ad 9), .inl (cA 0, 4, .inl (M_106 9))), ((ad 10), .inl (cA 0, 30, .inl (M_106 10))), ((ad 11), .inr (13, [.int (M_106 11 0), .ref (ad 14), .int (M_106 11 2)])), ((ad 12), .inl (cA 0, 0, .inl (M_106 12))), (q121, .inr (10, [.int 0, .int 0, .int 0, .null, .null]))]) := hD
      refine W.widen (k := 1) (n := 5) (Nat.le_of_ble_eq_true rfl) (Nat.le_of_ble_eq_true rfl) ?_
      refine lv_dup hx hb dX12_addState_124 rfl ?_
      refine lv_iload_n hx hb dX12_addState_125 rfl (lv_at hl 1 rfl) ?_
      refine lv_iload_n hx hb dX12_addState_126 rfl (lv_at hl 2 rfl) ?_
      refine sx_callv (wc := [(q121, .inr (10, [.int 0, .int 0, .int 0, .null, .null]))]) (wr := [((ad 0), .inr (12, [.int (M_106 0 0), .ref (ad 1), .ref (ad 6), .ref (ad 12), .int (M_106 0 4)])), ((ad 1), .inr (8, [.ref (ad 2), .ref (ad 5)])), ((ad 2), .inr (13, [.int (M_106 2 0), .ref (ad 3), .int 1])), ((ad 3), .inl (cA 4, 10, .inr (.inr (.inr (.inr (fun i => if i = 0 then some (ad 4) else none)))))), ((ad 4), .inr (10, [.int (M_106 4 0), .int (M_106 4 1), .int (M_106 4 2), .ref (ad 13), .ref (ad 13)])), ((ad 5), .inr (13, [.int (M_106 5 0), .ref (ad 14), .int (M_106 5 2)])), ((ad 6), .inr (9, [.int (M_106 6 0), .int (M_106 6 1), .ref (ad 7), .ref (ad 8), .ref (ad 9), .ref (ad 10), .ref (ad 11), .int (M_106 6 7), .int (M_106 6 8), .int (M_106 6 9), .ref (ad 0)])), ((ad 7), .inl (cA 0, 20, .inl (M_106 7))), ((ad 8), .inl (cA 0, 20, .inl (M_106 8))), ((ad 9), .inl (cA 0, 4, .inl (M_106 9))), ((ad 10), .inl (cA 0, 30, .inl (M_106 10))), ((ad 11), .inr (13, [.int (M_106 11 0), .ref (ad 14), .int (M_106 11 2)])), ((ad 12), .inl (cA 0, 0, .inl (M_106 12)))]) (pt_krun (n := 2) (As := [.int p1, .int p2]) (rest := [.ref q121, .ref (ad 2)]) F (mtST l D cA _ (ad 13) (ad 14) q121 p1 p2 ) sx_blind (sx_pre (wc := [(q121, .inr (10, [.int 0, .int 0, .int 0, .null, .null]))]) F hP hD hN hS hA [13] rfl rfl) kw_1050 (Or.inl kw_1048) kw_66 kw_1049 rfl ⟨by decide, by decide, by decide +kernel⟩ ⟨rfl, rfl, (Nat.le_of_ble_eq_true rfl), (Nat.le_of_ble_eq_true rfl)⟩ rfl hl.1 rfl (Nat.le_of_ble_eq_true rfl) dX12_addState_127 ⟨(Nat.le_trans (Nat.le_of_ble_eq_true rfl) s_cb), (Nat.le_trans (Nat.le_of_ble_eq_true rfl) s_sb)⟩) hP hD hS hA [13] [0, 1, 2, 3, 4, 5, 6, 7, 8, 9, 10, 11, 12] rfl rfl rfl (by decide) (fun _ H locs _ hP hD hS => ?_)
      replace hP : va_P D pt_cl (([] : va_W) ++ [((ad 0), .inr (12, [.int (M_106 0 0), .ref (ad 1), .ref (ad 6), .ref (ad 12), .int (M_106 0 4)])), ((ad 1), .inr (8, [.ref (ad 2), .ref (ad 5)])), ((ad 2), .inr (13, [.int (M_106 2 0), .ref (ad 3), .int 1])), ((ad 3), .inl (cA 4, 10, .inr (.inr (.inr (.inr (fun i => if i = 0 then some (ad 4) else none)))))), ((ad 4), .inr (10, [.int (M_106 4 0), .int (M_106 4 1), .int (M_106 4 2), .ref (ad 13), .ref (ad 13)])), ((ad 5), .inr (13, [.int (M_106 5 0), .ref (ad 14), .int (M_106 5 2)])), ((ad 6), .inr (9, [.int (M_106 6 0), .int (M_106 6 1), .ref (ad 7), .ref (ad 8), .ref (ad 9), .ref (ad 10), .ref (ad 11), .int (M_106 6 7), .int (M_106 6 8), .int (M_106 6 9), .ref (ad 0)])), ((ad 7), .inl (cA 0, 20, .inl (M_106 7))), ((ad 8), .inl (cA 0, 20, .inl (M_106 8))), ((ad 9), .inl (cA 0, 4, .inl (M_106 9))), ((ad 10), .inl (cA 0, 30, .inl (M_106 10))), ((ad 11), .inr (13, [.int (M_106 11 0), .ref (ad 14), .int (M_106 11 2)])), ((ad 12), .inl (cA 0, 0, .inl (M_106 12))), (q121, .inr (10, [.int p1, .int p2, .int (-1), .ref (ad 13), .ref (ad 13)]))]) H := hP
      replace hD : va_D (rt_fr ad s.heap.size) (([] : va_W) ++ [((ad 0), .inr (12, [.int (M_106 0 0), .ref (ad 1), .ref (ad 6), .ref (ad 12), .int (M_106 0 4)])), ((ad 1), .inr (8, [.ref (ad 2), .ref (ad 5)])), ((ad 2), .inr (13, [.int (M_106 2 0), .ref (ad 3), .int 1])), ((ad 3), .inl (cA 4, 10, .inr (.inr (.inr (.inr (fun i => if i = 0 then some (ad 4) else none)))))), ((ad 4), .inr (10, [.int (M_106 4 0), .int (M_106 4 1), .int (M_106 4 2), .ref (ad 13), .ref (ad 13)])), ((ad 5), .inr (13, [.int (M_106 5 0), .ref (ad 14), .int (M_106 5 2)])), ((ad 6), .inr (9, [.int (M_106 6 0), .int (M_106 6 1), .ref (ad 7), .ref (ad 8), .ref (ad 9), .ref (ad 10), .ref (ad 11), .int (M_106 6 7), .int (M_106 6 8), .int (M_106 6 9), .ref (ad 0)])), ((ad 7), .inl (cA 0, 20, .inl (M_106 7))), ((ad 8), .inl (cA 0, 20, .inl (M_106 8))), ((ad 9), .inl (cA 0, 4, .inl (M_106 9))), ((ad 10), .inl (cA 0, 30, .inl (M_106 10))), ((ad 11), .inr (13, [.int (M_106 11 0), .ref (ad 14), .int (M_106 11 2)])), ((ad 12), .inl (cA 0, 0, .inl (M_106 12))), (q121, .inr (10, [.int p1, .int p2, .int (-1), .ref (ad 13), .ref (ad 13)]))]) := hD
      refine W.widen (k := 1) (n := 5) (Nat.le_of_ble_eq_true rfl) (Nat.le_of_ble_eq_true rfl) ?_
      refine sx_calli (wc := [((ad 2), .inr (13, [.int (M_106 2 0), .ref (ad 3), .int 1])), ((ad 3), .inl (cA 4, 10, .inr (.inr (.inr (.inr (fun i => if i = 0 then some (ad 4) else none)))))), (q121, .inr (10, [.int p1, .int p2, .int (-1), .ref (ad 13), .ref (ad 13)]))]) (wr := [((ad 0), .inr (12, [.int (M_106 0 0), .ref (ad 1), .ref (ad 6), .ref (ad 12), .int (M_106 0 4)])), ((ad 1), .inr (8, [.ref (ad 2), .ref (ad 5)])), ((ad 4), .inr (10, [.int (M_106 4 0), .int (M_106 4 1), .int (M_106 4 2), .ref (ad 13), .ref (ad 13)])), ((ad 5), .inr (13, [.int (M_106 5 0), .ref (ad 14), .int (M_106 5 2)])), ((ad 6), .inr (9, [.int (M_106 6 0), .int (M_106 6 1), .ref (ad 7), .ref (ad 8), .ref (ad 9), .ref (ad 10), .ref (ad 11), .int (M_106 6 7), .int (M_106 6 8), .int (M_106 6 9), .ref (ad 0)])), ((ad 7), .inl (cA 0, 20, .inl (M_106 7))), ((ad 8), .inl (cA 0, 20, .inl (M_106 8))), ((ad 9), .inl (cA 0, 4, .inl (M_106 9))), ((ad 10), .inl (cA 0, 30, .inl (M_106 10))), ((ad 11), .inr (13, [.int (M_106 11 0), .ref (ad 14), .int (M_106 11 2)])), ((ad 12), .inl (cA 0, 0, .inl (M_106 12)))]) (sx_runV (n := 1) (As := [.ref q121]) (rest := []) F hP 2 rfl rfl (mtA1s l D cA _ (ad 13) (ad 14) ((ad 2)) ((ad 3)) q121 ((M_106 2 0)) ((fun i => if i = 0 then some (ad 4) else none)) 10 ([.int p1, .int p2, .int (-1), .ref (ad 13), .ref (ad 13)]) (show pt_cl[10]? = some (RX10, TX10, 5) from rfl) kw_1655) sx_blind (sx_pre (wc := [((ad 2), .inr (13, [.int (M_106 2 0), .ref (ad 3), .int 1])), ((ad 3), .inl (cA 4, 10, .inr (.inr (.inr (.inr (fun i => if i = 0 then some (ad 4) else none)))))), (q121, .inr (10, [.int p1, .int p2, .int (-1), .ref (ad 13), .ref (ad 13)]))]) F hP hD hN hS hA [2, 3, 13] rfl rfl) kw_1083 kw_1080 kw_64 kw_1081 kw_1082 ⟨by decide, by decide, by decide +kernel⟩ ⟨rfl, rfl, (Nat.le_of_ble_eq_true rfl), (Nat.le_of_ble_eq_true rfl)⟩ rfl hl.1 rfl (Nat.le_of_ble_eq_true rfl) dX12_addState_130 ⟨(Nat.le_trans (Nat.le_of_ble_eq_true rfl) s_cb), (Nat.le_trans (Nat.le_of_ble_eq_true rfl) s_sb)⟩) hP hD hS hA [2, 3, 13] [0, 1, 4, 5, 6, 7, 8, 9, 10, 11, 12] rfl rfl rfl (by decide) (fun r_130 _ H locs e_130 hP hD hS => ?_)
      obtain rfl := e_130
      replace hP : va_P D pt_cl (([] : va_W) ++ [((ad 0), .inr (12, [.int (M_106 0 0), .ref (ad 1), .ref (ad 6), .ref (ad 12), .int (M_106 0 4)])), ((ad 1), .inr (8, [.ref (ad 2), .ref (ad 5)])), ((ad 4), .inr (10, [.int (M_106 4 0), .int (M_106 4 1), .int (M_106 4 2), .ref (ad 13), .ref (ad 13)])), ((ad 5), .inr (13, [.int (M_106 5 0), .ref (ad 14), .int (M_106 5 2)])), ((ad 6), .inr (9, [.int (M_106 6 0), .int (M_106 6 1), .ref (ad 7), .ref (ad 8), .ref (ad 9), .ref (ad 10), .ref (ad 11), .int (M_106 6 7), .int (M_106 6 8), .int (M_106 6 9), .ref (ad 0)])), ((ad 7), .inl (cA 0, 20, .inl (M_106 7))), ((ad 8), .inl (cA 0, 20, .inl (M_106 8))), ((ad 9), .inl (cA 0, 4, .inl (M_106 9))), ((ad 10), .inl (cA 0, 30, .inl (M_106 10))), ((ad 11), .inr (13, [.int (M_106 11 0), .ref (ad 14), .int (M_106 11 2)])), ((ad 12), .inl (cA 0, 0, .inl (M_106 12))), ((ad 2), .inr (13, [.int ((M_106 2 0) + 1), .ref (ad 3), .int (1 + 1)])), ((ad 3), .inl (cA 4, 10, .inr (.inr (.inr (.inr (va_up (fun i => if i = 0 then some (ad 4) else none) 1 (some q121))))))), (q121, .inr (10, [q121, s]))]) H := hP
      replace hD : va_D (rt_fr ad s.heap.size) (([] : va_W) ++ [((ad 0), .inr (12, [.int (M_106 0 0), .ref (ad 1), .ref (ad 6), .ref (ad 12), .int (M_106 0 4)])), ((ad 1), .inr (8, [.ref (ad 2), .ref (ad 5)])), ((ad 4), .inr (10, [.int (M_106 4 0), .int (M_106 4 1), .int (M_106 4 2), .ref (ad 13), .ref (ad 13)])), ((ad 5), .inr (13, [.int (M_106 5 0), .ref (ad 14), .int (M_106 5 2)])), ((ad 6), .inr (9, [.int (M_106 6 0), .int (M_106 6 1), .ref (ad 7), .ref (ad 8), .ref (ad 9), .ref (ad 10), .ref (ad 11), .int (M_106 6 7), .int (M_106 6 8), .int (M_106 6 9), .ref (ad 0)])), ((ad 7), .inl (cA 0, 20, .inl (M_106 7))), ((ad 8), .inl (cA 0, 20, .inl (M_106 8))), ((ad 9), .inl (cA 0, 4, .inl (M_106 9))), ((ad 10), .inl (cA 0, 30, .inl (M_106 10))), ((ad 11), .inr (13, [.int (M_106 11 0), .ref (ad 14), .int (M_106 11 2)])), ((ad 12), .inl (cA 0, 0, .inl (M_106 12))), ((ad 2), .inr (13, [.int ((M_106 2 0) + 1), .ref (ad 3), .int (1 + 1)])), ((ad 3), .inl (cA 4, 10, .inr (.inr (.inr (.inr (va_up (fun i => if i = 0 then some (ad 4) else none) 1 (some q121))))))), (q121, .inr (10, [q121, s]))]) := hD
      refine W.widen (k := 1) (n := 5) (Nat.le_of_ble_eq_true rfl) (Nat.le_of_ble_eq_true rfl) ?_
      refine lv_pop hx hb dX12_addState_133 rfl ?_
      refine lv_aload_n hx hb dX12_addState_134 rfl (lv_at hl 0 rfl) ?_
      refine sx_get F hP 0 rfl inX12 rfl 1 (by decide) kw_1140 rfl rfl dX12_addState_135 ?_
      refine sx_get F hP 1 rfl inX8 rfl 0 (by decide) kw_985 rfl rfl dX12_addState_138 ?_
      refine sx_calli (wc := [((ad 2), .inr (13, [.int ((M_106 2 0) + 1), .ref (ad 3), .int (1 + 1)]))]) (wr := [((ad 0), .inr (12, [.int (M_106 0 0), .ref (ad 1), .ref (ad 6), .ref (ad 12), .int (M_106 0 4)])), ((ad 1), .inr (8, [.ref (ad 2), .ref (ad 5)])), ((ad 4), .inr (10, [.int (M_106 4 0), .int (M_106 4 1), .int (M_106 4 2), .ref (ad 13), .ref (ad 13)])), ((ad 5), .inr (13, [.int (M_106 5 0), .ref (ad 14), .int (M_106 5 2)])), ((ad 6), .inr (9, [.int (M_106 6 0), .int (M_106 6 1), .ref (ad 7), .ref (ad 8), .ref (ad 9), .ref (ad 10), .ref (ad 11), .int (M_106 6 7), .int (M_106 6 8), .int (M_106 6 9), .ref (ad 0)])), ((ad 7), .inl (cA 0, 20, .inl (M_106 7))), ((ad 8), .inl (cA 0, 20, .inl (M_106 8))), ((ad 9), .inl (cA 0, 4, .inl (M_106 9))), ((ad 10), .inl (cA 0, 30, .inl (M_106 10))), ((ad 11), .inr (13, [.int (M_106 11 0), .ref (ad 14), .int (M_106 11 2)])), ((ad 12), .inl (cA 0, 0, .inl (M_106 12))), ((ad 3), .inl (cA 4, 10, .inr (.inr (.inr (.inr (va_up (fun i => if i = 0 then some (ad 4) else none) 1 (some q121))))))), (q121, .inr (10, [q121, s]))]) (sx_runV (n := 0) (As := []) (rest := []) F hP 11 rfl rfl (mtSZ l D cA _ (ad 13) (ad 14) ((ad 2)) (((M_106 2 0) + 1)) ((ad 3)) ((1 + 1)) ) sx_blind (sx_pre (wc := [((ad 2), .inr (13, [.int ((M_106 2 0) + 1), .ref (ad 3), .int (1 + 1)]))]) F hP hD hN hS hA [11] rfl rfl) kw_1167 kw_1164 kw_64 kw_1165 kw_1166 ⟨by decide, by decide, by decide +kernel⟩ ⟨rfl, rfl, (Nat.le_of_ble_eq_true rfl), (Nat.le_of_ble_eq_true rfl)⟩ rfl hl.1 rfl (Nat.le_of_ble_eq_true rfl) dX12_addState_141 ⟨(Nat.le_trans (Nat.le_of_ble_eq_true rfl) s_cb), (Nat.le_trans (Nat.le_of_ble_eq_true rfl) s_sb)⟩) hP hD hS hA [11] [0, 1, 2, 3, 4, 5, 6, 7, 8, 9, 10, 12, 13] rfl rfl rfl (by decide) (fun r_141 _ H locs e_141 hP hD hS => ?_)
      obtain rfl := e_141
      replace hP : va_P D pt_cl (([] : va_W) ++ [((ad 0), .inr (12, [.int (M_106 0 0), .ref (ad 1), .ref (ad 6), .ref (ad 12), .int (M_106 0 4)])), ((ad 1), .inr (8, [.ref (ad 2), .ref (ad 5)])), ((ad 4), .inr (10, [.int (M_106 4 0), .int (M_106 4 1), .int (M_106 4 2), .ref (ad 13), .ref (ad 13)])), ((ad 5), .inr (13, [.int (M_106 5 0), .ref (ad 14), .int (M_106 5 2)])), ((ad 6), .inr (9, [.int (M_106 6 0), .int (M_106 6 1), .ref (ad 7), .ref (ad 8), .ref (ad 9), .ref (ad 10), .ref (ad 11), .int (M_106 6 7), .int (M_106 6 8), .int (M_106 6 9), .ref (ad 0)])), ((ad 7), .inl (cA 0, 20, .inl (M_106 7))), ((ad 8), .inl (cA 0, 20, .inl (M_106 8))), ((ad 9), .inl (cA 0, 4, .inl (M_106 9))), ((ad 10), .inl (cA 0, 30, .inl (M_106 10))), ((ad 11), .inr (13, [.int (M_106 11 0), .ref (ad 14), .int (M_106 11 2)])), ((ad 12), .inl (cA 0, 0, .inl (M_106 12))), ((ad 3), .inl (cA 4, 10, .inr (.inr (.inr (.inr (va_up (fun i => if i = 0 then some (ad 4) else none) 1 (some q121))))))), (q121, .inr (10, [q121, s])), ((ad 2), .inr (13, [.int ((M_106 2 0) + 1), .ref (ad 3), .int (1 + 1)]))]) H := hP
      replace hD : va_D (rt_fr ad s.heap.size) (([] : va_W) ++ [((ad 0), .inr (12, [.int (M_106 0 0), .ref (ad 1), .ref (ad 6), .ref (ad 12), .int (M_106 0 4)])), ((ad 1), .inr (8, [.ref (ad 2), .ref (ad 5)])), ((ad 4), .inr (10, [.int (M_106 4 0), .int (M_106 4 1), .int (M_106 4 2), .ref (ad 13), .ref (ad 13)])), ((ad 5), .inr (13, [.int (M_106 5 0), .ref (ad 14), .int (M_106 5 2)])), ((ad 6), .inr (9, [.int (M_106 6 0), .int (M_106 6 1), .ref (ad 7), .ref (ad 8), .ref (ad 9), .ref (ad 10), .ref (ad 11), .int (M_106 6 7), .int (M_106 6 8), .int (M_106 6 9), .ref (ad 0)])), ((ad 7), .inl (cA 0, 20, .inl (M_106 7))), ((ad 8), .inl (cA 0, 20, .inl (M_106 8))), ((ad 9), .inl (cA 0, 4, .inl (M_106 9))), ((ad 10), .inl (cA 0, 30, .inl (M_106 10))), ((ad 11), .inr (13, [.int (M_106 11 0), .ref (ad 14), .int (M_106 11 2)])), ((ad 12), .inl (cA 0, 0, .inl (M_106 12))), ((ad 3), .inl (cA 4, 10, .inr (.inr (.inr (.inr (va_up (fun i => if i = 0 then some (ad 4) else none) 1 (some q121))))))), (q121, .inr (10, [q121, s])), ((ad 2), .inr (13, [.int ((M_106 2 0) + 1), .ref (ad 3), .int (1 + 1)]))]) := hD
      refine W.widen (k := 1) (n := 5) (Nat.le_of_ble_eq_true rfl) (Nat.le_of_ble_eq_true rfl) ?_
      refine lv_iconst (v := 1) hx hb dX12_addState_144 (by decide) ?_
      refine lv_isub hx hb dX12_addState_145 ?_
      exact W.iret (v := ((1 + 1) - 1)) hx hb hr (fun t ht hW => ⟨⟨_, M_106, rfl, hw, trivial⟩, hS.F ht⟩) hS.2.2 dX12_addState_146
    · replace hw := hw.2 hc109
      refine lv_iconst (v := 0) hx hb dX12_addState_112 (by decide) ?_
      refine W.widen (k := 1) (n := 5) (Nat.le_of_ble_eq_true rfl) (Nat.le_of_ble_eq_true rfl) ?_
      exact W.iret (v := 0) hx hb hr (fun t ht hW => ⟨⟨0, M_106, rfl, hw, trivial⟩, hS.F ht⟩) hS.2.2 dX12_addState_113
  have J104 : ∀ (M : pt_M) (H : Heap) (locs : List Loc) (ls : Array Slot), wjX12_addState_104 p1 p2 Q M → va_P D pt_cl (rt_W cA ad M) H → va_S (rt_fr ad s.heap.size) s.heap H locs → lv_has ls 3 [(0, .ref (ad 0)), (1, .int p1), (2, .int p2)] → W p l e (headSpec (Cond.code yX12_addState cX12_addState 3 (some .int) :: lw_all) ({ frames := 4, cells := 1, slots := 5, locals := 85 } : Room)).room s m ([.ref (ad 0), .int p1, .int p2] : List Value).toArray below meth c H locs 0 0 (MQ below (va_Qi Q (fun (_ : pt_M) (_ : State) => True) (rt_fr ad s.heap.size)) ([.ref (ad 0), .int p1, .int p2] : List Value).toArray s 1 5 (rt_fr ad s.heap.size)) (F0 m 104 ls [.ref (ad 0)]) := by
    intro M H locs ls hw hP hS hl
    unfold wjX12_addState_104 at hw
    refine lv_iconst (v := 0) hx hb dX12_addState_104 (by decide) ?_
    exact J105 0 M _ _ _ hw hP hS (lv_sub hl [0, 1, 2] rfl)
  have J100 : ∀ (M : pt_M) (H : Heap) (locs : List Loc) (ls : Array Slot), wjX12_addState_100 p1 p2 Q M → va_P D pt_cl (rt_W cA ad M) H → va_S (rt_fr ad s.heap.size) s.heap H locs → lv_has ls 3 [(0, .ref (ad 0)), (1, .int p1), (2, .int p2)] → W p l e (headSpec (Cond.code yX12_addState cX12_addState 3 (some .int) :: lw_all) ({ frames := 4, cells := 1, slots := 5, locals := 85 } : Room)).room s m ([.ref (ad 0), .int p1, .int p2] : List Value).toArray below meth c H locs 0 0 (MQ below (va_Qi Q (fun (_ : pt_M) (_ : State) => True) (rt_fr ad s.heap.size)) ([.ref (ad 0), .int p1, .int p2] : List Value).toArray s 1 5 (rt_fr ad s.heap.size)) (F0 m 100 ls [.ref (ad 0)]) := by
    intro M H locs ls hw hP hS hl
    unfold wjX12_addState_100 at hw
    refine lv_iconst (v := 1) hx hb dX12_addState_100 (by decide) ?_
    refine lv_goto (tgt := 105) hx hb dX12_addState_101 (by decide) ?_
    exact J105 1 M _ _ _ hw hP hS (lv_sub hl [0, 1, 2] rfl)
  have J51 : ∀ (M : pt_M) (H : Heap) (locs : List Loc) (ls : Array Slot), wjX12_addState_51 p1 p2 Q M → va_P D pt_cl (rt_W cA ad M) H → va_S (rt_fr ad s.heap.size) s.heap H locs → lv_has ls 3 [] → W p l e (headSpec (Cond.code yX12_addState cX12_addState 3 (some .int) :: lw_all) ({ frames := 4, cells := 1, slots := 5, locals := 85 } : Room)).room s m ([.ref (ad 0), .int p1, .int p2] : List Value).toArray below meth c H locs 0 0 (MQ below (va_Qi Q (fun (_ : pt_M) (_ : State) => True) (rt_fr ad s.heap.size)) ([.ref (ad 0), .int p1, .int p2] : List Value).toArray s 1 5 (rt_fr ad s.heap.size)) (F0 m 51 ls []) := by
    intro M H locs ls hw hP hS hl
    unfold wjX12_addState_51 at hw
    refine lv_iconst (v := 0) hx hb dX12_addState_51 (by decide) ?_
    refine W.widen (k := 1) (n := 5) (Nat.le_of_ble_eq_true rfl) (Nat.le_of_ble_eq_true rfl) ?_
    exact W.iret (v := 0) hx hb hr (fun t ht hW => ⟨⟨0, M, rfl, hw, trivial⟩, hS.F ht⟩) hS.2.2 dX12_addState_52
  have J31 : ∀ (xs1 : Int32) (M : pt_M) (H : Heap) (locs : List Loc) (ls : Array Slot), wjX12_addState_31 p1 p2 Q xs1 M → va_P D pt_cl (rt_W cA ad M) H → va_S (rt_fr ad s.heap.size) s.heap H locs → lv_has ls 3 [(0, .ref (ad 0)), (1, .int p1), (2, .int p2)] → W p l e (headSpec (Cond.code yX12_addState cX12_addState 3 (some .int) :: lw_all) ({ frames := 4, cells := 1, slots := 5, locals := 85 } : Room)).room s m ([.ref (ad 0), .int p1, .int p2] : List Value).toArray below meth c H locs 0 0 (MQ below (va_Qi Q (fun (_ : pt_M) (_ : State) => True) (rt_fr ad s.heap.size)) ([.ref (ad 0), .int p1, .int p2] : List Value).toArray s 1 5 (rt_fr ad s.heap.size)) (F0 m 31 ls [.int xs1, .ref (ad 0)]) := by
    intro xs1 M H locs ls hw hP hS hl
    unfold wjX12_addState_31 at hw
    refine lv_iconst (v := 1) hx hb dX12_addState_31 (by decide) ?_
    refine rt_calli (rt_runV (n := 2) (As := [.int xs1, .int 1]) (rest := []) F hP hN hS (rt_frs hS.1) (rt_c12 _ rt_k0) (rt_l12 rt_k0) rfl (mtX12_start l D cA ad hI _ xs1 1 M _ hw) kw_1171 kw_1168 kw_60 kw_1170 kw_28 ⟨by decide, by decide, by decide +kernel⟩ ⟨rfl, rfl, Nat.le_of_ble_eq_true rfl, Nat.le_of_ble_eq_true rfl⟩ rfl hl.1 rfl (Nat.le_of_ble_eq_true rfl) dX12_addState_32 ⟨Nat.zero_le _, Nat.zero_le _⟩) hS (fun _ h => h) (fun r_32 M_32 H locs hw hP hS _ _ => ?_)
    refine lv_if_ne (tgt := 51) hx hb dX12_addState_35 (by decide) (fun hc35 => ?_) (fun hc35 => ?_)
    · replace hw := hw.1 hc35
      exact J51 M_32 _ _ _ hw hP hS (lv_sub hl [] rfl)
    · replace hw := hw.2 hc35
      refine lv_aload_n hx hb dX12_addState_38 rfl (lv_at hl 0 rfl) ?_
      refine lv_aload_n hx hb dX12_addState_39 rfl (lv_at hl 0 rfl) ?_
      refine lv_iload_n hx hb dX12_addState_40 rfl (lv_at hl 1 rfl) ?_
      refine rt_calli (rt_runV (n := 1) (As := [.int p1]) (rest := [.ref (ad 0)]) F hP hN hS (rt_frs hS.1) (rt_c12 _ rt_k0) (rt_l12 rt_k0) rfl (mtX12_isNoState l D cA ad hI _ p1 M_32 _ hw) kw_1179 kw_1176 kw_60 kw_1178 kw_30 ⟨by decide, by decide, by decide +kernel⟩ ⟨rfl, rfl, Nat.le_of_ble_eq_true rfl, Nat.le_of_ble_eq_true rfl⟩ rfl hl.1 rfl (Nat.le_of_ble_eq_true rfl) dX12_addState_41 ⟨Nat.zero_le _, Nat.zero_le _⟩) hS (fun _ h => h) (fun r_41 M_41 H locs hw hP hS _ _ => ?_)
      refine lv_iconst (v := 2) hx hb dX12_addState_44 (by decide) ?_
      refine rt_calli (rt_runV (n := 2) (As := [.int r_41, .int 2]) (rest := []) F hP hN hS (rt_frs hS.1) (rt_c12 _ rt_k0) (rt_l12 rt_k0) rfl (mtX12_refuse l D cA ad hI _ r_41 2 M_41 _ hw) kw_1175 kw_1172 kw_60 kw_1174 kw_29 ⟨by decide, by decide, by decide +kernel⟩ ⟨rfl, rfl, Nat.le_of_ble_eq_true rfl, Nat.le_of_ble_eq_true rfl⟩ rfl hl.1 rfl (Nat.le_of_ble_eq_true rfl) dX12_addState_45 ⟨Nat.zero_le _, Nat.zero_le _⟩) hS (fun _ h => h) (fun r_45 M_45 H locs hw hP hS _ _ => ?_)
      refine lv_if_eq (tgt := 53) hx hb dX12_addState_48 (by decide) (fun hc48 => ?_) (fun hc48 => ?_)
      · replace hw := hw.1 hc48
        refine lv_aload_n hx hb dX12_addState_53 rfl (lv_at hl 0 rfl) ?_
        refine lv_iload_n hx hb dX12_addState_54 rfl (lv_at hl 2 rfl) ?_
        refine lv_iconst (v := 0) hx hb dX12_addState_55 (by decide) ?_
        refine lv_iconst (v := 4) hx hb dX12_addState_56 (by decide) ?_
        refine rt_calli (rt_runS (n := 3) (As := [.int p2, .int 0, .int 4]) (rest := [.ref (ad 0)]) F hP hN hS (rt_frs hS.1) (mtX12_isIn l D cA ad hI _ p2 0 4 M_45 _ hw) kw_1182 kw_1180 kw_60 kw_1181 ⟨by decide, by decide, by decide +kernel⟩ ⟨rfl, rfl, Nat.le_of_ble_eq_true rfl, Nat.le_of_ble_eq_true rfl⟩ rfl hl.1 rfl (Nat.le_of_ble_eq_true rfl) dX12_addState_57 ⟨Nat.zero_le _, Nat.zero_le _⟩) hS (fun _ h => h) (fun r_57 M_57 H locs hw hP hS _ _ => ?_)
        refine lv_if_eq (tgt := 100) hx hb dX12_addState_60 (by decide) (fun hc60 => ?_) (fun hc60 => ?_)
        · replace hw := hw.1 hc60
          exact J100 M_57 _ _ _ hw hP hS (lv_sub hl [0, 1, 2] rfl)
        · replace hw := hw.2 hc60
          refine lv_aload_n hx hb dX12_addState_63 rfl (lv_at hl 0 rfl) ?_
          refine rt_get F hP (rt_c12 _ rt_k0) (rt_l12 rt_k0) inX12 rfl 1 (by decide) kw_1140 rfl rfl dX12_addState_64 ?_
          refine rt_get F hP (rt_c8 _ rt_k1) (rt_l8 rt_k1) inX8 rfl 0 (by decide) kw_985 rfl rfl dX12_addState_67 ?_
          refine lv_iload_n hx hb dX12_addState_70 rfl (lv_at hl 1 rfl) ?_
          refine rt_call4 (rt_runV (n := 1) (As := [.int p1]) (rest := [.ref (ad 0)]) F hP hN hS (rt_frs hS.1) (rt_c13 _ rt_k2) (rt_l13 rt_k2) rfl (mtJx4a65c_get_915e3 l D cA ad hI _ p1 M_57 _ hw) kw_1186 kw_1183 kw_64 kw_1184 kw_1185 ⟨by decide, by decide, by decide +kernel⟩ ⟨rfl, rfl, (Nat.le_of_ble_eq_true rfl), (Nat.le_of_ble_eq_true rfl)⟩ rfl hl.1 rfl (Nat.le_of_ble_eq_true rfl) dX12_addState_71 ⟨Nat.zero_le _, Nat.zero_le _⟩) hS (fun _ h => h) (fun M_71 H locs hw hP hS _ _ => ?_)
          refine rt_cast4 F hP kw_1046 dX12_addState_74 ?_
          refine rt_calli (rt_runV (n := 0) (As := []) (rest := [.ref (ad 0)]) F hP hN hS (rt_frs hS.1) (rt_c10 _ rt_k4) (rt_l10 rt_k4) rfl (mtX10_isOpen l D cA ad hI _ M_71 _ hw) kw_1200 kw_1197 kw_66 kw_1198 kw_1199 ⟨by decide, by decide, by decide +kernel⟩ ⟨rfl, rfl, Nat.le_of_ble_eq_true rfl, Nat.le_of_ble_eq_true rfl⟩ rfl hl.1 rfl (Nat.le_of_ble_eq_true rfl) dX12_addState_77 ⟨Nat.zero_le _, Nat.zero_le _⟩) hS (fun _ h => h) (fun r_77 M_77 H locs hw hP hS _ _ => ?_)
          refine lv_if_eq (tgt := 100) hx hb dX12_addState_80 (by decide) (fun hc80 => ?_) (fun hc80 => ?_)
          · replace hw := hw.1 hc80
            exact J100 M_77 _ _ _ hw hP hS (lv_sub hl [0, 1, 2] rfl)
          · replace hw := hw.2 hc80
            refine lv_iload_n hx hb dX12_addState_83 rfl (lv_at hl 2 rfl) ?_
            refine lv_iconst (v := 2) hx hb dX12_addState_84 (by decide) ?_
            refine lv_icmp_ne (tgt := 104) hx hb dX12_addState_85 (by decide) (fun hc85 => ?_) (fun hc85 => ?_)
            · replace hw := hw.1 hc85
              exact J104 M_77 _ _ _ hw hP hS (lv_sub hl [0, 1, 2] rfl)
            · replace hw := hw.2 hc85
              refine lv_aload_n hx hb dX12_addState_88 rfl (lv_at hl 0 rfl) ?_
              refine rt_get F hP (rt_c12 _ rt_k0) (rt_l12 rt_k0) inX12 rfl 1 (by decide) kw_1140 rfl rfl dX12_addState_89 ?_
              refine lv_iload_n hx hb dX12_addState_92 rfl (lv_at hl 1 rfl) ?_
              refine rt_calli (rt_runV (n := 1) (As := [.int p1]) (rest := [.ref (ad 0)]) F hP hN hS (rt_frs hS.1) (rt_c8 _ rt_k1) (rt_l8 rt_k1) rfl (mtX8_kind l D cA ad hI _ p1 M_77 _ hw) kw_1204 kw_1201 kw_61 kw_1202 kw_1203 ⟨by decide, by decide, by decide +kernel⟩ ⟨rfl, rfl, Nat.le_of_ble_eq_true rfl, Nat.le_of_ble_eq_true rfl⟩ rfl hl.1 rfl (Nat.le_of_ble_eq_true rfl) dX12_addState_93 ⟨Nat.zero_le _, Nat.zero_le _⟩) hS (fun _ h => h) (fun r_93 M_93 H locs hw hP hS _ _ => ?_)
              refine lv_iconst (v := 1) hx hb dX12_addState_96 (by decide) ?_
              refine lv_icmp_ne (tgt := 104) hx hb dX12_addState_97 (by decide) (fun hc97 => ?_) (fun hc97 => ?_)
              · replace hw := hw.1 hc97
                exact J104 M_93 _ _ _ hw hP hS (lv_sub hl [0, 1, 2] rfl)
              · replace hw := hw.2 hc97
                exact J100 M_93 _ _ _ hw hP hS (lv_sub hl [0, 1, 2] rfl)
      · replace hw := hw.2 hc48
        exact J51 M_45 _ _ _ hw hP hS (lv_sub hl [] rfl)
  have J26 : ∀ (M : pt_M) (H : Heap) (locs : List Loc) (ls : Array Slot), wjX12_addState_26 p1 p2 Q M → va_P D pt_cl (rt_W cA ad M) H → va_S (rt_fr ad s.heap.size) s.heap H locs → lv_has ls 3 [(0, .ref (ad 0)), (1, .int p1), (2, .int p2)] → W p l e (headSpec (Cond.code yX12_addState cX12_addState 3 (some .int) :: lw_all) ({ frames := 4, cells := 1, slots := 5, locals := 85 } : Room)).room s m ([.ref (ad 0), .int p1, .int p2] : List Value).toArray below meth c H locs 0 0 (MQ below (va_Qi Q (fun (_ : pt_M) (_ : State) => True) (rt_fr ad s.heap.size)) ([.ref (ad 0), .int p1, .int p2] : List Value).toArray s 1 5 (rt_fr ad s.heap.size)) (F0 m 26 ls [.ref (ad 0)]) := by
    intro M H locs ls hw hP hS hl
    unfold wjX12_addState_26 at hw
    refine lv_iconst (v := 1) hx hb dX12_addState_26 (by decide) ?_
    refine lv_goto (tgt := 31) hx hb dX12_addState_27 (by decide) ?_
    exact J31 1 M _ _ _ hw hP hS (lv_sub hl [0, 1, 2] rfl)
  unfold wpX12_addState at hw
  refine lv_aload_n hx hb dX12_addState_0 rfl (lv_at hl 0 rfl) ?_
  refine lv_aload_n hx hb dX12_addState_1 rfl (lv_at hl 0 rfl) ?_
  refine rt_get F hP (rt_c12 _ rt_k0) (rt_l12 rt_k0) inX12 rfl 2 (by decide) kw_1142 rfl rfl dX12_addState_2 ?_
  refine rt_get F hP (rt_c9 _ rt_k6) (rt_l9 rt_k6) inX9 rfl 0 (by decide) kw_1004 rfl rfl dX12_addState_5 ?_
  refine lv_if_ne (tgt := 26) hx hb dX12_addState_8 (by decide) (fun hc8 => ?_) (fun hc8 => ?_)
  · replace hw := hw.1 hc8
    exact J26 M _ _ _ hw hP hS (lv_sub hl [0, 1, 2] rfl)
  · replace hw := hw.2 hc8
    refine lv_aload_n hx hb dX12_addState_11 rfl (lv_at hl 0 rfl) ?_
    refine rt_get F hP (rt_c12 _ rt_k0) (rt_l12 rt_k0) inX12 rfl 1 (by decide) kw_1140 rfl rfl dX12_addState_12 ?_
    refine rt_get F hP (rt_c8 _ rt_k1) (rt_l8 rt_k1) inX8 rfl 0 (by decide) kw_985 rfl rfl dX12_addState_15 ?_
    refine rt_calli (rt_runV (n := 0) (As := []) (rest := [.ref (ad 0)]) F hP hN hS (rt_frs hS.1) (rt_c13 _ rt_k2) (rt_l13 rt_k2) rfl (mtJx4a65c_size_8abf5 l D cA ad hI _ 2 rt_k2 M _ hw) kw_1167 kw_1164 kw_64 kw_1165 kw_1166 ⟨by decide, by decide, by decide +kernel⟩ ⟨rfl, rfl, Nat.le_of_ble_eq_true rfl, Nat.le_of_ble_eq_true rfl⟩ rfl hl.1 rfl (Nat.le_of_ble_eq_true rfl) dX12_addState_18 ⟨Nat.zero_le _, Nat.zero_le _⟩) hS (fun _ h => h) (fun r_18 M_18 H locs hw hP hS _ _ => ?_)
    refine lv_bipush (v := 20) hx hb dX12_addState_21 (by decide) ?_
    refine lv_icmp_ne (tgt := 30) hx hb dX12_addState_23 (by decide) (fun hc23 => ?_) (fun hc23 => ?_)
    · replace hw := hw.1 hc23
      refine lv_iconst (v := 0) hx hb dX12_addState_30 (by decide) ?_
      exact J31 0 M_18 _ _ _ hw hP hS (lv_sub hl [0, 1, 2] rfl)
    · replace hw := hw.2 hc23
      exact J26 M_18 _ _ _ hw hP hS (lv_sub hl [0, 1, 2] rfl)
-- ===== X12_setDoing
def wjX12_setDoing_111 (p1 : Int32) (p2 : Int32) (p3 : Int32) (p4 : Int32) (p5 : Int32) (Q : Int32 → pt_M → Prop)  (xs0 : Int32) (M : pt_M) : Prop :=
  Q xs0 M
def wjX12_setDoing_72 (p1 : Int32) (p2 : Int32) (p3 : Int32) (p4 : Int32) (p5 : Int32) (Q : Int32 → pt_M → Prop)   (M : pt_M) : Prop :=
  Q 0 M
def wjX12_setDoing_65 (p1 : Int32) (p2 : Int32) (p3 : Int32) (p4 : Int32) (p5 : Int32) (Q : Int32 → pt_M → Prop)  (xs1 : Int32) (M : pt_M) : Prop :=
  wpX12_refuse xs1 3 M (fun (r_66 : Int32) (M_66 : pt_M) => (r_66 = 0 → wpJx4a65c_get_915e3 p1 M_66 (fun (M_82 : pt_M) => (p2 = 0 → wjX12_setDoing_111 p1 p2 p3 p4 p5 Q (0 : Int32) M_82) ∧ (¬ p2 = 0 → wjX12_setDoing_111 p1 p2 p3 p4 p5 Q (0 : Int32) M_82))) ∧ (¬ r_66 = 0 → wjX12_setDoing_72 p1 p2 p3 p4 p5 Q M_66))
def wjX12_setDoing_60 (p1 : Int32) (p2 : Int32) (p3 : Int32) (p4 : Int32) (p5 : Int32) (Q : Int32 → pt_M → Prop)   (M : pt_M) : Prop :=
  wjX12_setDoing_65 p1 p2 p3 p4 p5 Q 1 M
def wpX12_setDoing (p1 : Int32) (p2 : Int32) (p3 : Int32) (p4 : Int32) (p5 : Int32) (M : pt_M) (Q : Int32 → pt_M → Prop) : Prop :=
  wpX12_start (M 6 0) 1 M (fun (r_9 : Int32) (M_9 : pt_M) => (¬ r_9 = 0 → wjX12_setDoing_72 p1 p2 p3 p4 p5 Q M_9) ∧ (r_9 = 0 → wpX12_isNoState p1 M_9 (fun (r_18 : Int32) (M_18 : pt_M) => wpX12_refuse r_18 2 M_18 (fun (r_22 : Int32) (M_22 : pt_M) => (¬ r_22 = 0 → wjX12_setDoing_72 p1 p2 p3 p4 p5 Q M_22) ∧ (r_22 = 0 → wpJx4a65c_get_915e3 p1 M_22 (fun (M_37 : pt_M) => wpX10_isMark M_37 (fun (r_43 : Int32) (M_43 : pt_M) => (¬ r_43 = 0 → wjX12_setDoing_60 p1 p2 p3 p4 p5 Q M_43) ∧ (r_43 = 0 → wpX12_isNoAction p3 p4 p5 M_43 (fun (r_54 : Int32) (M_54 : pt_M) => (r_54 = 0 → wjX12_setDoing_65 p1 p2 p3 p4 p5 Q 0 M_54) ∧ (¬ r_54 = 0 → wjX12_setDoing_60 p1 p2 p3 p4 p5 Q M_54))))))))))
set_option maxHeartbeats 4000000 in
set_option maxRecDepth 100000 in
theorem mtX12_setDoing (l : Launch) (D : va_G) (cA : Nat → ClassId) (ad : Nat → Nat) (hI : rt_I ad) (sz : Nat) (p1 : Int32) (p2 : Int32) (p3 : Int32) (p4 : Int32) (p5 : Int32) (M : pt_M) (Q : Int32 → pt_M → Prop) (hw : wpX12_setDoing p1 p2 p3 p4 p5 M Q) : Met l yX12_setDoing (Cond.code yX12_setDoing cX12_setDoing 9 (some .int) :: lw_all) ({ frames := 3, cells := 1, slots := 3, locals := 64 } : Room) (va_Pc [.ref (ad 0), .int p1, .int p2, .int p3, .int p4, .int p5] (rt_P D cA ad sz M)) (va_Qi Q (fun (_ : pt_M) (_ : State) => True) (rt_fr ad sz)) 1 3 (rt_fr ad sz) := by
  refine Met.ofW (cc := cX12_setDoing) (maxL := 9) (ret := (some .int)) (by decide) rfl ?_
  intro p e s m args below meth c s₁ B hml hv
  obtain ⟨rfl, hsz, hP, hK, hN⟩ := hv
  have hx := B.exec
  have hb := B.bytes
  have hr := B.returns
  have hts0 := atoms_spec (ws := (Cond.code yX12_setDoing cX12_setDoing 9 (some .int) :: lw_all)) B.pre
  have hown : s.vm.findClass RX12 = some m.cls := findClass_of_methodNamed B.named
  have hlocks := B.notSynchronized
  subst hsz
  have F : pt_F p m c cX12_setDoing 9 s _ RX12 D cA := ⟨⟨hx, hb, hml, hown, fun w h => hts0 w (List.mem_cons_of_mem _ h)⟩, hK⟩
  have hD : ∀ M, va_D (rt_fr ad s.heap.size) (rt_W cA ad M) := rt_D hI (fun k h => Or.inl ⟨k, h, rfl⟩)
  have hS : va_S (rt_fr ad s.heap.size) s.heap s.heap [] := va_S.rf
  have hl := lv_entry ([.ref (ad 0), .int p1, .int p2, .int p3, .int p4, .int p5]) (n := 9) (Nat.le_of_ble_eq_true rfl)
  rw [lg_entry_eq]
  generalize (lg_sl ([.ref (ad 0), .int p1, .int p2, .int p3, .int p4, .int p5]) ++ List.replicate (9 - (lg_sl ([.ref (ad 0), .int p1, .int p2, .int p3, .int p4, .int p5])).length) Slot.unset).toArray = ls at hl ⊢
  have hl : lv_has ls 9 [(0, .ref (ad 0)), (1, .int p1), (2, .int p2), (3, .int p3), (4, .int p4), (5, .int p5)] := hl
  have J111 : ∀ (xs0 : Int32) (M : pt_M) (H : Heap) (locs : List Loc) (ls : Array Slot), wjX12_setDoing_111 p1 p2 p3 p4 p5 Q xs0 M → va_P D pt_cl (rt_W cA ad M) H → va_S (rt_fr ad s.heap.size) s.heap H locs → lv_has ls 9 [(2, .int p2), (3, .int p3), (4, .int p4), (5, .int p5), (6, .ref (ad 4))] → W p l e (headSpec (Cond.code yX12_setDoing cX12_setDoing 9 (some .int) :: lw_all) ({ frames := 3, cells := 1, slots := 3, locals := 64 } : Room)).room s m ([.ref (ad 0), .int p1, .int p2, .int p3, .int p4, .int p5] : List Value).toArray below meth c H locs 0 0 (MQ below (va_Qi Q (fun (_ : pt_M) (_ : State) => True) (rt_fr ad s.heap.size)) ([.ref (ad 0), .int p1, .int p2, .int p3, .int p4, .int p5] : List Value).toArray s 1 3 (rt_fr ad s.heap.size)) (F0 m 111 ls [.int xs0]) := by
    intro xs0 M H locs ls hw hP hS hl
    unfold wjX12_setDoing_111 at hw
    refine lv_istore (lv' := [(7, .int xs0), (2, .int p2), (3, .int p3), (4, .int p4), (5, .int p5), (6, .ref (ad 4))]) hx hb dX12_setDoing_111 hl (by decide) rfl (fun ls hl => ?_)
    refine lv_iconst (v := 3) hx hb dX12_setDoing_113 (by decide) ?_
    replace hP : va_P D pt_cl (([] : va_W) ++ [((ad 0), .inr (12, [.int (M 0 0), .ref (ad 1), .ref (ad 6), .ref (ad 12), .int (M 0 4)])), ((ad 1), .inr (8, [.ref (ad 2), .ref (ad 5)])), ((ad 2), .inr (13, [.int (M 2 0), .ref (ad 3), .int (M 2 2)])), ((ad 3), .inl (cA 4, 10, .inr (.inr (.inr (.inr (fun i => if i = 0 then some (ad 4) else none)))))), ((ad 4), .inr (10, [.int (M 4 0), .int (M 4 1), .int (M 4 2), .ref (ad 13), .ref (ad 13)])), ((ad 5), .inr (13, [.int (M 5 0), .ref (ad 14), .int (M 5 2)])), ((ad 6), .inr (9, [.int (M 6 0), .int (M 6 1), .ref (ad 7), .ref (ad 8), .ref (ad 9), .ref (ad 10), .ref (ad 11), .int (M 6 7), .int (M 6 8), .int (M 6 9), .ref (ad 0)])), ((ad 7), .inl (cA 0, 20, .inl (M 7))), ((ad 8), .inl (cA 0, 20, .inl (M 8))), ((ad 9), .inl (cA 0, 4, .inl (M 9))), ((ad 10), .inl (cA 0, 30, .inl (M 10))), ((ad 11), .inr (13, [.int (M 11 0), .ref (ad 14), .int (M 11 2)])), ((ad 12), .inl (cA 0, 0, .inl (M 12)))]) H := hP
    replace hD : va_D (rt_fr ad s.heap.size) (([] : va_W) ++ [((ad 0), .inr (12, [.int (M 0 0), .ref (ad 1), .ref (ad 6), .ref (ad 12), .int (M 0 4)])), ((ad 1), .inr (8, [.ref (ad 2), .ref (ad 5)])), ((ad 2), .inr (13, [.int (M 2 0), .ref (ad 3), .int (M 2 2)])), ((ad 3), .inl (cA 4, 10, .inr (.inr (.inr (.inr (fun i => if i = 0 then some (ad 4) else none)))))), ((ad 4), .inr (10, [.int (M 4 0), .int (M 4 1), .int (M 4 2), .ref (ad 13), .ref (ad 13)])), ((ad 5), .inr (13, [.int (M 5 0), .ref (ad 14), .int (M 5 2)])), ((ad 6), .inr (9, [.int (M 6 0), .int (M 6 1), .ref (ad 7), .ref (ad 8), .ref (ad 9), .ref (ad 10), .ref (ad 11), .int (M 6 7), .int (M 6 8), .int (M 6 9), .ref (ad 0)])), ((ad 7), .inl (cA 0, 20, .inl (M 7))), ((ad 8), .inl (cA 0, 20, .inl (M 8))), ((ad 9), .inl (cA 0, 4, .inl (M 9))), ((ad 10), .inl (cA 0, 30, .inl (M 10))), ((ad 11), .inr (13, [.int (M 11 0), .ref (ad 14), .int (M 11 2)])), ((ad 12), .inl (cA 0, 0, .inl (M 12)))]) := hD M
    have hA : ∀ q, s.heap.size ≤ q → rt_fr ad s.heap.size q := fun q h => Or.inr h
    have s_cb : 1 ≤ (headSpec (Cond.code yX12_setDoing cX12_setDoing 9 (some .int) :: lw_all) ({ frames := 3, cells := 1, slots := 3, locals := 64 } : Room)).room.cells := (Nat.le_of_ble_eq_true rfl)
    have s_sb : 3 ≤ (headSpec (Cond.code yX12_setDoing cX12_setDoing 9 (some .int) :: lw_all) ({ frames := 3, cells := 1, slots := 3, locals := 64 } : Room)).room.slots := (Nat.le_of_ble_eq_true rfl)
    refine pt_xnew (N := 3) F hP hD hS hA kw_128 (by decide) (by decide) (by decide) (Nat.le_trans (Nat.le_of_ble_eq_true rfl) s_cb) (Nat.le_trans (Nat.le_of_ble_eq_true rfl) s_sb) dX12_setDoing_114 (fun q114 H hP hD hS => ?_)
    replace hP : va_P D pt_cl (([] : va_W) ++ [((ad 0), .inr (12, [.int (M 0 0), .ref (ad 1), .ref (ad 6), .ref (ad 12), .int (M 0 4)])), ((ad 1), .inr (8, [.ref (ad 2), .ref (ad 5)])), ((ad 2), .inr (13, [.int (M 2 0), .ref (ad 3), .int (M 2 2)])), ((ad 3), .inl (cA 4, 10, .inr (.inr (.inr (.inr (fun i => if i = 0 then some (ad 4) else none)))))), ((ad 4), .inr (10, [.int (M 4 0), .int (M 4 1), .int (M 4 2), .ref (ad 13), .ref (ad 13)])), ((ad 5), .inr (13, [.int (M 5 0), .ref (ad 14), .int (M 5 2)])), ((ad 6), .inr (9, [.int (M 6 0), .int (M 6 1), .ref (ad 7), .ref (ad 8), .ref (ad 9), .ref (ad 10), .ref (ad 11), .int (M 6 7), .int (M 6 8), .int (M 6 9), .ref (ad 0)])), ((ad 7), .inl (cA 0, 20, .inl (M 7))), ((ad 8), .inl (cA 0, 20, .inl (M 8))), ((ad 9), .inl (cA 0, 4, .inl (M 9))), ((ad 10), .inl (cA 0, 30, .inl (M 10))), ((ad 11), .inr (13, [.int (M 11 0), .ref (ad 14), .int (M 11 2)])), ((ad 12), .inl (cA 0, 0, .inl (M 12))), (q114, .inl (cA 0, 3, .inl (fun _ => 0)))]) H := hP
    replace hD : va_D (rt_fr ad s.heap.size) (([] : va_W) ++ [((ad 0), .inr (12, [.int (M 0 0), .ref (ad 1), .ref (ad 6), .ref (ad 12), .int (M 0 4)])), ((ad 1), .inr (8, [.ref (ad 2), .ref (ad 5)])), ((ad 2), .inr (13, [.int (M 2 0), .ref (ad 3), .int (M 2 2)])), ((ad 3), .inl (cA 4, 10, .inr (.inr (.inr (.inr (fun i => if i = 0 then some (ad 4) else none)))))), ((ad 4), .inr (10, [.int (M 4 0), .int (M 4 1), .int (M 4 2), .ref (ad 13), .ref (ad 13)])), ((ad 5), .inr (13, [.int (M 5 0), .ref (ad 14), .int (M 5 2)])), ((ad 6), .inr (9, [.int (M 6 0), .int (M 6 1), .ref (ad 7), .ref (ad 8), .ref (ad 9), .ref (ad 10), .ref (ad 11), .int (M 6 7), .int (M 6 8), .int (M 6 9), .ref (ad 0)])), ((ad 7), .inl (cA 0, 20, .inl (M 7))), ((ad 8), .inl (cA 0, 20, .inl (M 8))), ((ad 9), .inl (cA 0, 4, .inl (M 9))), ((ad 10), .inl (cA 0, 30, .inl (M 10))), ((ad 11), .inr (13, [.int (M 11 0), .ref (ad 14), .int (M 11 2)])), ((ad 12), .inl (cA 0, 0, .inl (M 12))), (q114, .inl (cA 0, 3, .inl (fun _ => 0)))]) := hD
    refine W.widen (k := 1) (n := 3) (Nat.le_of_ble_eq_true rfl) (Nat.le_of_ble_eq_true rfl) ?_
    refine lv_dup hx hb dX12_setDoing_116 rfl ?_
    refine lv_iconst (v := 0) hx hb dX12_setDoing_117 (by decide) ?_
    refine lv_iload_n hx hb dX12_setDoing_118 rfl (lv_at hl 2 rfl) ?_
    refine pt_xist (Y' := fun f1 => [((ad 0), .inr (12, [.int (M 0 0), .ref (ad 1), .ref (ad 6), .ref (ad 12), .int (M 0 4)])), ((ad 1), .inr (8, [.ref (ad 2), .ref (ad 5)])), ((ad 2), .inr (13, [.int (M 2 0), .ref (ad 3), .int (M 2 2)])), ((ad 3), .inl (cA 4, 10, .inr (.inr (.inr (.inr (fun i => if i = 0 then some (ad 4) else none)))))), ((ad 4), .inr (10, [.int (M 4 0), .int (M 4 1), .int (M 4 2), .ref (ad 13), .ref (ad 13)])), ((ad 5), .inr (13, [.int (M 5 0), .ref (ad 14), .int (M 5 2)])), ((ad 6), .inr (9, [.int (M 6 0), .int (M 6 1), .ref (ad 7), .ref (ad 8), .ref (ad 9), .ref (ad 10), .ref (ad 11), .int (M 6 7), .int (M 6 8), .int (M 6 9), .ref (ad 0)])), ((ad 7), .inl (cA 0, 20, .inl (M 7))), ((ad 8), .inl (cA 0, 20, .inl (M 8))), ((ad 9), .inl (cA 0, 4, .inl (M 9))), ((ad 10), .inl (cA 0, 30, .inl (M 10))), ((ad 11), .inr (13, [.int (M 11 0), .ref (ad 14), .int (M 11 2)])), ((ad 12), .inl (cA 0, 0, .inl (M 12))), (q114, .inl (cA 0, 3, .inl f1))]) F hP hD hS 13 rfl (show vp_in 0 3 from by unfold vp_in; decide) dX12_setDoing_119 (fun _ => rfl) (fun f119 H locs ef119 hP hD hS => ?_)
    refine lv_dup hx hb dX12_setDoing_120 rfl ?_
    refine lv_iconst (v := 1) hx hb dX12_setDoing_121 (by decide) ?_
    refine lv_iload hx hb dX12_setDoing_122 (lv_at hl 3 rfl) ?_
    refine pt_xist (Y' := fun f1 => [((ad 0), .inr (12, [.int (M 0 0), .ref (ad 1), .ref (ad 6), .ref (ad 12), .int (M 0 4)])), ((ad 1), .inr (8, [.ref (ad 2), .ref (ad 5)])), ((ad 2), .inr (13, [.int (M 2 0), .ref (ad 3), .int (M 2 2)])), ((ad 3), .inl (cA 4, 10, .inr (.inr (.inr (.inr (fun i => if i = 0 then some (ad 4) else none)))))), ((ad 4), .inr (10, [.int (M 4 0), .int (M 4 1), .int (M 4 2), .ref (ad 13), .ref (ad 13)])), ((ad 5), .inr (13, [.int (M 5 0), .ref (ad 14), .int (M 5 2)])), ((ad 6), .inr (9, [.int (M 6 0), .int (M 6 1), .ref (ad 7), .ref (ad 8), .ref (ad 9), .ref (ad 10), .ref (ad 11), .int (M 6 7), .int (M 6 8), .int (M 6 9), .ref (ad 0)])), ((ad 7), .inl (cA 0, 20, .inl (M 7))), ((ad 8), .inl (cA 0, 20, .inl (M 8))), ((ad 9), .inl (cA 0, 4, .inl (M 9))), ((ad 10), .inl (cA 0, 30, .inl (M 10))), ((ad 11), .inr (13, [.int (M 11 0), .ref (ad 14), .int (M 11 2)])), ((ad 12), .inl (cA 0, 0, .inl (M 12))), (q114, .inl (cA 0, 3, .inl f1))]) F hP hD hS 13 rfl (show vp_in 1 3 from by unfold vp_in; decide) dX12_setDoing_124 (fun _ => rfl) (fun f124 H locs ef124 hP hD hS => ?_)
    refine lv_dup hx hb dX12_setDoing_125 rfl ?_
    refine lv_iconst (v := 2) hx hb dX12_setDoing_126 (by decide) ?_
    refine lv_iload hx hb dX12_setDoing_127 (lv_at hl 4 rfl) ?_
    refine pt_xist (Y' := fun f1 => [((ad 0), .inr (12, [.int (M 0 0), .ref (ad 1), .ref (ad 6), .ref (ad 12), .int (M 0 4)])), ((ad 1), .inr (8, [.ref (ad 2), .ref (ad 5)])), ((ad 2), .inr (13, [.int (M 2 0), .ref (ad 3), .int (M 2 2)])), ((ad 3), .inl (cA 4, 10, .inr (.inr (.inr (.inr (fun i => if i = 0 then some (ad 4) else none)))))), ((ad 4), .inr (10, [.int (M 4 0), .int (M 4 1), .int (M 4 2), .ref (ad 13), .ref (ad 13)])), ((ad 5), .inr (13, [.int (M 5 0), .ref (ad 14), .int (M 5 2)])), ((ad 6), .inr (9, [.int (M 6 0), .int (M 6 1), .ref (ad 7), .ref (ad 8), .ref (ad 9), .ref (ad 10), .ref (ad 11), .int (M 6 7), .int (M 6 8), .int (M 6 9), .ref (ad 0)])), ((ad 7), .inl (cA 0, 20, .inl (M 7))), ((ad 8), .inl (cA 0, 20, .inl (M 8))), ((ad 9), .inl (cA 0, 4, .inl (M 9))), ((ad 10), .inl (cA 0, 30, .inl (M 10))), ((ad 11), .inr (13, [.int (M 11 0), .ref (ad 14), .int (M 11 2)])), ((ad 12), .inl (cA 0, 0, .inl (M 12))), (q114, .inl (cA 0, 3, .inl f1))]) F hP hD hS 13 rfl (show vp_in 2 3 from by unfold vp_in; decide) dX12_setDoing_129 (fun _ => rfl) (fun f129 H locs ef129 hP hD hS => ?_)
    refine lv_astore (lv' := [(8, .ref q114), (7, .int xs0), (2, .int p2), (3, .int p3), (4, .int p4), (5, .int p5), (6, .ref (ad 4))]) hx hb dX12_setDoing_130 hl (by decide) rfl (fun ls hl => ?_)
    refine lv_iload_n hx hb dX12_setDoing_132 rfl (lv_at hl 2 rfl) ?_
    refine lv_if_eq (tgt := 146) hx hb dX12_setDoing_133 (by decide) (fun hc => ?_) (fun hc => ?_)
    · refine lv_aload hx hb dX12_setDoing_146 (lv_at hl 6 rfl) ?_
      refine lv_aload hx hb dX12_setDoing_148 (lv_at hl 0 rfl) ?_
      refine sx_put (Y' := [((ad 0), .inr (12, [.int (M 0 0), .ref (ad 1), .ref (ad 6), .ref (ad 12), .int (M 0 4)])), ((ad 1), .inr (8, [.ref (ad 2), .ref (ad 5)])), ((ad 2), .inr (13, [.int (M 2 0), .ref (ad 3), .int (M 2 2)])), ((ad 3), .inl (cA 4, 10, .inr (.inr (.inr (.inr (fun i => if i = 0 then some (ad 4) else none)))))), ((ad 4), .inr (10, [.int (M 4 0), .int (M 4 1), .int (M 4 2), .ref q114, .ref (ad 13)])), ((ad 5), .inr (13, [.int (M 5 0), .ref (ad 14), .int (M 5 2)])), ((ad 6), .inr (9, [.int (M 6 0), .int (M 6 1), .ref (ad 7), .ref (ad 8), .ref (ad 9), .ref (ad 10), .ref (ad 11), .int (M 6 7), .int (M 6 8), .int (M 6 9), .ref (ad 0)])), ((ad 7), .inl (cA 0, 20, .inl (M 7))), ((ad 8), .inl (cA 0, 20, .inl (M 8))), ((ad 9), .inl (cA 0, 4, .inl (M 9))), ((ad 10), .inl (cA 0, 30, .inl (M 10))), ((ad 11), .inr (13, [.int (M 11 0), .ref (ad 14), .int (M 11 2)])), ((ad 12), .inl (cA 0, 0, .inl (M 12))), (q114, .inl (cA 0, 3, .inl f129))]) F hP hD hS 4 rfl inX10 tyX10 tyX10_ok nmX10 rfl 3 (by decide) kw_1065 rfl rfl rfl rfl (Nat.le_of_ble_eq_true rfl) rfl dX12_setDoing_150 (fun H locs hP hD hS => ?_)
      refine lv_iload hx hb dX12_setDoing_153 (lv_at hl 1 rfl) ?_
      exact W.iret (v := xs0) hx hb hr (fun t ht hW => ⟨⟨_, M, rfl, hw, trivial⟩, hS.F ht⟩) hS.2.2 dX12_setDoing_155
    · refine lv_aload hx hb dX12_setDoing_136 (lv_at hl 6 rfl) ?_
      refine lv_aload hx hb dX12_setDoing_138 (lv_at hl 0 rfl) ?_
      refine sx_put (Y' := [((ad 0), .inr (12, [.int (M 0 0), .ref (ad 1), .ref (ad 6), .ref (ad 12), .int (M 0 4)])), ((ad 1), .inr (8, [.ref (ad 2), .ref (ad 5)])), ((ad 2), .inr (13, [.int (M 2 0), .ref (ad 3), .int (M 2 2)])), ((ad 3), .inl (cA 4, 10, .inr (.inr (.inr (.inr (fun i => if i = 0 then some (ad 4) else none)))))), ((ad 4), .inr (10, [.int (M 4 0), .int (M 4 1), .int (M 4 2), .ref (ad 13), .ref q114])), ((ad 5), .inr (13, [.int (M 5 0), .ref (ad 14), .int (M 5 2)])), ((ad 6), .inr (9, [.int (M 6 0), .int (M 6 1), .ref (ad 7), .ref (ad 8), .ref (ad 9), .ref (ad 10), .ref (ad 11), .int (M 6 7), .int (M 6 8), .int (M 6 9), .ref (ad 0)])), ((ad 7), .inl (cA 0, 20, .inl (M 7))), ((ad 8), .inl (cA 0, 20, .inl (M 8))), ((ad 9), .inl (cA 0, 4, .inl (M 9))), ((ad 10), .inl (cA 0, 30, .inl (M 10))), ((ad 11), .inr (13, [.int (M 11 0), .ref (ad 14), .int (M 11 2)])), ((ad 12), .inl (cA 0, 0, .inl (M 12))), (q114, .inl (cA 0, 3, .inl f129))]) F hP hD hS 4 rfl inX10 tyX10 tyX10_ok nmX10 rfl 4 (by decide) kw_1067 rfl rfl rfl rfl (Nat.le_of_ble_eq_true rfl) rfl dX12_setDoing_140 (fun H locs hP hD hS => ?_)
      refine lv_goto (tgt := 153) hx hb dX12_setDoing_143 (by decide) ?_
      refine lv_iload hx hb dX12_setDoing_153 (lv_at hl 1 rfl) ?_
      exact W.iret (v := xs0) hx hb hr (fun t ht hW => ⟨⟨_, M, rfl, hw, trivial⟩, hS.F ht⟩) hS.2.2 dX12_setDoing_155
  have J72 : ∀ (M : pt_M) (H : Heap) (locs : List Loc) (ls : Array Slot), wjX12_setDoing_72 p1 p2 p3 p4 p5 Q M → va_P D pt_cl (rt_W cA ad M) H → va_S (rt_fr ad s.heap.size) s.heap H locs → lv_has ls 9 [] → W p l e (headSpec (Cond.code yX12_setDoing cX12_setDoing 9 (some .int) :: lw_all) ({ frames := 3, cells := 1, slots := 3, locals := 64 } : Room)).room s m ([.ref (ad 0), .int p1, .int p2, .int p3, .int p4, .int p5] : List Value).toArray below meth c H locs 0 0 (MQ below (va_Qi Q (fun (_ : pt_M) (_ : State) => True) (rt_fr ad s.heap.size)) ([.ref (ad 0), .int p1, .int p2, .int p3, .int p4, .int p5] : List Value).toArray s 1 3 (rt_fr ad s.heap.size)) (F0 m 72 ls []) := by
    intro M H locs ls hw hP hS hl
    unfold wjX12_setDoing_72 at hw
    refine lv_iconst (v := 0) hx hb dX12_setDoing_72 (by decide) ?_
    refine W.widen (k := 1) (n := 3) (Nat.le_of_ble_eq_true rfl) (Nat.le_of_ble_eq_true rfl) ?_
    exact W.iret (v := 0) hx hb hr (fun t ht hW => ⟨⟨0, M, rfl, hw, trivial⟩, hS.F ht⟩) hS.2.2 dX12_setDoing_73
  have J65 : ∀ (xs1 : Int32) (M : pt_M) (H : Heap) (locs : List Loc) (ls : Array Slot), wjX12_setDoing_65 p1 p2 p3 p4 p5 Q xs1 M → va_P D pt_cl (rt_W cA ad M) H → va_S (rt_fr ad s.heap.size) s.heap H locs → lv_has ls 9 [(0, .ref (ad 0)), (1, .int p1), (2, .int p2), (3, .int p3), (4, .int p4), (5, .int p5)] → W p l e (headSpec (Cond.code yX12_setDoing cX12_setDoing 9 (some .int) :: lw_all) ({ frames := 3, cells := 1, slots := 3, locals := 64 } : Room)).room s m ([.ref (ad 0), .int p1, .int p2, .int p3, .int p4, .int p5] : List Value).toArray below meth c H locs 0 0 (MQ below (va_Qi Q (fun (_ : pt_M) (_ : State) => True) (rt_fr ad s.heap.size)) ([.ref (ad 0), .int p1, .int p2, .int p3, .int p4, .int p5] : List Value).toArray s 1 3 (rt_fr ad s.heap.size)) (F0 m 65 ls [.int xs1, .ref (ad 0)]) := by
    intro xs1 M H locs ls hw hP hS hl
    unfold wjX12_setDoing_65 at hw
    refine lv_iconst (v := 3) hx hb dX12_setDoing_65 (by decide) ?_
    refine rt_calli (rt_runV (n := 2) (As := [.int xs1, .int 3]) (rest := []) F hP hN hS (rt_frs hS.1) (rt_c12 _ rt_k0) (rt_l12 rt_k0) rfl (mtX12_refuse l D cA ad hI _ xs1 3 M _ hw) kw_1175 kw_1172 kw_60 kw_1174 kw_29 ⟨by decide, by decide, by decide +kernel⟩ ⟨rfl, rfl, Nat.le_of_ble_eq_true rfl, Nat.le_of_ble_eq_true rfl⟩ rfl hl.1 rfl (Nat.le_of_ble_eq_true rfl) dX12_setDoing_66 ⟨Nat.zero_le _, Nat.zero_le _⟩) hS (fun _ h => h) (fun r_66 M_66 H locs hw hP hS _ _ => ?_)
    refine lv_if_eq (tgt := 74) hx hb dX12_setDoing_69 (by decide) (fun hc69 => ?_) (fun hc69 => ?_)
    · replace hw := hw.1 hc69
      refine lv_aload_n hx hb dX12_setDoing_74 rfl (lv_at hl 0 rfl) ?_
      refine rt_get F hP (rt_c12 _ rt_k0) (rt_l12 rt_k0) inX12 rfl 1 (by decide) kw_1140 rfl rfl dX12_setDoing_75 ?_
      refine rt_get F hP (rt_c8 _ rt_k1) (rt_l8 rt_k1) inX8 rfl 0 (by decide) kw_985 rfl rfl dX12_setDoing_78 ?_
      refine lv_iload_n hx hb dX12_setDoing_81 rfl (lv_at hl 1 rfl) ?_
      refine rt_call4 (rt_runV (n := 1) (As := [.int p1]) (rest := []) F hP hN hS (rt_frs hS.1) (rt_c13 _ rt_k2) (rt_l13 rt_k2) rfl (mtJx4a65c_get_915e3 l D cA ad hI _ p1 M_66 _ hw) kw_1186 kw_1183 kw_64 kw_1184 kw_1185 ⟨by decide, by decide, by decide +kernel⟩ ⟨rfl, rfl, (Nat.le_of_ble_eq_true rfl), (Nat.le_of_ble_eq_true rfl)⟩ rfl hl.1 rfl (Nat.le_of_ble_eq_true rfl) dX12_setDoing_82 ⟨Nat.zero_le _, Nat.zero_le _⟩) hS (fun _ h => h) (fun M_82 H locs hw hP hS _ _ => ?_)
      refine rt_cast4 F hP kw_1046 dX12_setDoing_85 ?_
      refine lv_astore (lv' := [(6, .ref (ad 4)), (0, .ref (ad 0)), (1, .int p1), (2, .int p2), (3, .int p3), (4, .int p4), (5, .int p5)]) hx hb dX12_setDoing_88 hl (by decide) rfl (fun ls hl => ?_)
      refine lv_iload_n hx hb dX12_setDoing_90 rfl (lv_at hl 3 rfl) ?_
      refine lv_if_eq (tgt := 104) hx hb dX12_setDoing_91 (by decide) (fun hc91 => ?_) (fun hc91 => ?_)
      · replace hw := hw.1 hc91
        refine lv_aload hx hb dX12_setDoing_104 (lv_at hl 0 rfl) ?_
        refine rt_get F hP (rt_c10 _ rt_k4) (rt_l10 rt_k4) inX10 rfl 3 (by decide) kw_1065 rfl rfl dX12_setDoing_106 ?_
        refine lv_iconst (v := 0) hx hb dX12_setDoing_109 (by decide) ?_
        refine rt_iald13 F hN hS (show vp_in 0 3 from by unfold vp_in; decide) dX12_setDoing_110 ?_
        exact J111 (0 : Int32) M_82 _ _ _ hw hP hS (lv_sub hl [3, 4, 5, 6, 0] rfl)
      · replace hw := hw.2 hc91
        refine lv_aload hx hb dX12_setDoing_94 (lv_at hl 0 rfl) ?_
        refine rt_get F hP (rt_c10 _ rt_k4) (rt_l10 rt_k4) inX10 rfl 4 (by decide) kw_1067 rfl rfl dX12_setDoing_96 ?_
        refine lv_iconst (v := 0) hx hb dX12_setDoing_99 (by decide) ?_
        refine rt_iald13 F hN hS (show vp_in 0 3 from by unfold vp_in; decide) dX12_setDoing_100 ?_
        refine lv_goto (tgt := 111) hx hb dX12_setDoing_101 (by decide) ?_
        exact J111 (0 : Int32) M_82 _ _ _ hw hP hS (lv_sub hl [3, 4, 5, 6, 0] rfl)
    · replace hw := hw.2 hc69
      exact J72 M_66 _ _ _ hw hP hS (lv_sub hl [] rfl)
  have J60 : ∀ (M : pt_M) (H : Heap) (locs : List Loc) (ls : Array Slot), wjX12_setDoing_60 p1 p2 p3 p4 p5 Q M → va_P D pt_cl (rt_W cA ad M) H → va_S (rt_fr ad s.heap.size) s.heap H locs → lv_has ls 9 [(0, .ref (ad 0)), (1, .int p1), (2, .int p2), (3, .int p3), (4, .int p4), (5, .int p5)] → W p l e (headSpec (Cond.code yX12_setDoing cX12_setDoing 9 (some .int) :: lw_all) ({ frames := 3, cells := 1, slots := 3, locals := 64 } : Room)).room s m ([.ref (ad 0), .int p1, .int p2, .int p3, .int p4, .int p5] : List Value).toArray below meth c H locs 0 0 (MQ below (va_Qi Q (fun (_ : pt_M) (_ : State) => True) (rt_fr ad s.heap.size)) ([.ref (ad 0), .int p1, .int p2, .int p3, .int p4, .int p5] : List Value).toArray s 1 3 (rt_fr ad s.heap.size)) (F0 m 60 ls [.ref (ad 0)]) := by
    intro M H locs ls hw hP hS hl
    unfold wjX12_setDoing_60 at hw
    refine lv_iconst (v := 1) hx hb dX12_setDoing_60 (by decide) ?_
    refine lv_goto (tgt := 65) hx hb dX12_setDoing_61 (by decide) ?_
    exact J65 1 M _ _ _ hw hP hS (lv_sub hl [0, 1, 2, 3, 4, 5] rfl)
  unfold wpX12_setDoing at hw
  refine lv_aload_n hx hb dX12_setDoing_0 rfl (lv_at hl 0 rfl) ?_
  refine lv_aload_n hx hb dX12_setDoing_1 rfl (lv_at hl 0 rfl) ?_
  refine rt_get F hP (rt_c12 _ rt_k0) (rt_l12 rt_k0) inX12 rfl 2 (by decide) kw_1142 rfl rfl dX12_setDoing_2 ?_
  refine rt_get F hP (rt_c9 _ rt_k6) (rt_l9 rt_k6) inX9 rfl 0 (by decide) kw_1004 rfl rfl dX12_setDoing_5 ?_
  refine lv_iconst (v := 1) hx hb dX12_setDoing_8 (by decide) ?_
  refine rt_calli (rt_runV (n := 2) (As := [.int (M 6 0), .int 1]) (rest := []) F hP hN hS (rt_frs hS.1) (rt_c12 _ rt_k0) (rt_l12 rt_k0) rfl (mtX12_start l D cA ad hI _ (M 6 0) 1 M _ hw) kw_1171 kw_1168 kw_60 kw_1170 kw_28 ⟨by decide, by decide, by decide +kernel⟩ ⟨rfl, rfl, Nat.le_of_ble_eq_true rfl, Nat.le_of_ble_eq_true rfl⟩ rfl hl.1 rfl (Nat.le_of_ble_eq_true rfl) dX12_setDoing_9 ⟨Nat.zero_le _, Nat.zero_le _⟩) hS (fun _ h => h) (fun r_9 M_9 H locs hw hP hS _ _ => ?_)
  refine lv_if_ne (tgt := 72) hx hb dX12_setDoing_12 (by decide) (fun hc12 => ?_) (fun hc12 => ?_)
  · replace hw := hw.1 hc12
    exact J72 M_9 _ _ _ hw hP hS (lv_sub hl [] rfl)
  · replace hw := hw.2 hc12
    refine lv_aload_n hx hb dX12_setDoing_15 rfl (lv_at hl 0 rfl) ?_
    refine lv_aload_n hx hb dX12_setDoing_16 rfl (lv_at hl 0 rfl) ?_
    refine lv_iload_n hx hb dX12_setDoing_17 rfl (lv_at hl 1 rfl) ?_
    refine rt_calli (rt_runV (n := 1) (As := [.int p1]) (rest := [.ref (ad 0)]) F hP hN hS (rt_frs hS.1) (rt_c12 _ rt_k0) (rt_l12 rt_k0) rfl (mtX12_isNoState l D cA ad hI _ p1 M_9 _ hw) kw_1179 kw_1176 kw_60 kw_1178 kw_30 ⟨by decide, by decide, by decide +kernel⟩ ⟨rfl, rfl, Nat.le_of_ble_eq_true rfl, Nat.le_of_ble_eq_true rfl⟩ rfl hl.1 rfl (Nat.le_of_ble_eq_true rfl) dX12_setDoing_18 ⟨Nat.zero_le _, Nat.zero_le _⟩) hS (fun _ h => h) (fun r_18 M_18 H locs hw hP hS _ _ => ?_)
    refine lv_iconst (v := 2) hx hb dX12_setDoing_21 (by decide) ?_
    refine rt_calli (rt_runV (n := 2) (As := [.int r_18, .int 2]) (rest := []) F hP hN hS (rt_frs hS.1) (rt_c12 _ rt_k0) (rt_l12 rt_k0) rfl (mtX12_refuse l D cA ad hI _ r_18 2 M_18 _ hw) kw_1175 kw_1172 kw_60 kw_1174 kw_29 ⟨by decide, by decide, by decide +kernel⟩ ⟨rfl, rfl, Nat.le_of_ble_eq_true rfl, Nat.le_of_ble_eq_true rfl⟩ rfl hl.1 rfl (Nat.le_of_ble_eq_true rfl) dX12_setDoing_22 ⟨Nat.zero_le _, Nat.zero_le _⟩) hS (fun _ h => h) (fun r_22 M_22 H locs hw hP hS _ _ => ?_)
    refine lv_if_ne (tgt := 72) hx hb dX12_setDoing_25 (by decide) (fun hc25 => ?_) (fun hc25 => ?_)
    · replace hw := hw.1 hc25
      exact J72 M_22 _ _ _ hw hP hS (lv_sub hl [] rfl)
    · replace hw := hw.2 hc25
      refine lv_aload_n hx hb dX12_setDoing_28 rfl (lv_at hl 0 rfl) ?_
      refine lv_aload_n hx hb dX12_setDoing_29 rfl (lv_at hl 0 rfl) ?_
      refine rt_get F hP (rt_c12 _ rt_k0) (rt_l12 rt_k0) inX12 rfl 1 (by decide) kw_1140 rfl rfl dX12_setDoing_30 ?_
      refine rt_get F hP (rt_c8 _ rt_k1) (rt_l8 rt_k1) inX8 rfl 0 (by decide) kw_985 rfl rfl dX12_setDoing_33 ?_
      refine lv_iload_n hx hb dX12_setDoing_36 rfl (lv_at hl 1 rfl) ?_
      refine rt_call4 (rt_runV (n := 1) (As := [.int p1]) (rest := [.ref (ad 0)]) F hP hN hS (rt_frs hS.1) (rt_c13 _ rt_k2) (rt_l13 rt_k2) rfl (mtJx4a65c_get_915e3 l D cA ad hI _ p1 M_22 _ hw) kw_1186 kw_1183 kw_64 kw_1184 kw_1185 ⟨by decide, by decide, by decide +kernel⟩ ⟨rfl, rfl, (Nat.le_of_ble_eq_true rfl), (Nat.le_of_ble_eq_true rfl)⟩ rfl hl.1 rfl (Nat.le_of_ble_eq_true rfl) dX12_setDoing_37 ⟨Nat.zero_le _, Nat.zero_le _⟩) hS (fun _ h => h) (fun M_37 H locs hw hP hS _ _ => ?_)
      refine rt_cast4 F hP kw_1046 dX12_setDoing_40 ?_
      refine rt_calli (rt_runV (n := 0) (As := []) (rest := [.ref (ad 0)]) F hP hN hS (rt_frs hS.1) (rt_c10 _ rt_k4) (rt_l10 rt_k4) rfl (mtX10_isMark l D cA ad hI _ M_37 _ hw) kw_1223 kw_1241 kw_66 kw_1221 kw_1222 ⟨by decide, by decide, by decide +kernel⟩ ⟨rfl, rfl, Nat.le_of_ble_eq_true rfl, Nat.le_of_ble_eq_true rfl⟩ rfl hl.1 rfl (Nat.le_of_ble_eq_true rfl) dX12_setDoing_43 ⟨Nat.zero_le _, Nat.zero_le _⟩) hS (fun _ h => h) (fun r_43 M_43 H locs hw hP hS _ _ => ?_)
      refine lv_if_ne (tgt := 60) hx hb dX12_setDoing_46 (by decide) (fun hc46 => ?_) (fun hc46 => ?_)
      · replace hw := hw.1 hc46
        exact J60 M_43 _ _ _ hw hP hS (lv_sub hl [0, 1, 2, 3, 4, 5] rfl)
      · replace hw := hw.2 hc46
        refine lv_iload_n hx hb dX12_setDoing_49 rfl (lv_at hl 3 rfl) ?_
        refine lv_iload hx hb dX12_setDoing_50 (lv_at hl 4 rfl) ?_
        refine lv_iload hx hb dX12_setDoing_52 (lv_at hl 5 rfl) ?_
        refine rt_calli (rt_runS (n := 3) (As := [.int p3, .int p4, .int p5]) (rest := [.ref (ad 0)]) F hP hN hS (rt_frs hS.1) (mtX12_isNoAction l D cA ad hI _ p3 p4 p5 M_43 _ hw) kw_1244 kw_1242 kw_60 kw_1243 ⟨by decide, by decide, by decide +kernel⟩ ⟨rfl, rfl, Nat.le_of_ble_eq_true rfl, Nat.le_of_ble_eq_true rfl⟩ rfl hl.1 rfl (Nat.le_of_ble_eq_true rfl) dX12_setDoing_54 ⟨Nat.zero_le _, Nat.zero_le _⟩) hS (fun _ h => h) (fun r_54 M_54 H locs hw hP hS _ _ => ?_)
        refine lv_if_eq (tgt := 64) hx hb dX12_setDoing_57 (by decide) (fun hc57 => ?_) (fun hc57 => ?_)
        · replace hw := hw.1 hc57
          refine lv_iconst (v := 0) hx hb dX12_setDoing_64 (by decide) ?_
          exact J65 0 M_54 _ _ _ hw hP hS (lv_sub hl [0, 1, 2, 3, 4, 5] rfl)
        · replace hw := hw.2 hc57
          exact J60 M_54 _ _ _ hw hP hS (lv_sub hl [0, 1, 2, 3, 4, 5] rfl)
-- ===== X12_addTransition
def wjX12_addTransition_154 (p1 : Int32) (p2 : Int32) (p3 : Int32) (p4 : Int32) (Q : Int32 → pt_M → Prop)  (xs0 : Int32) (M : pt_M) : Prop :=
  wpX12_refuse xs0 3 M (fun (r_160 : Int32) (M_160 : pt_M) => (r_160 = 0 → M_160 5 2 = 0 ∧ Q (((0 + 1) - 1)) M_160) ∧ (¬ r_160 = 0 → Q 0 M_160))
def wjX12_addTransition_153 (p1 : Int32) (p2 : Int32) (p3 : Int32) (p4 : Int32) (Q : Int32 → pt_M → Prop)   (M : pt_M) : Prop :=
  wjX12_addTransition_154 p1 p2 p3 p4 Q 0 M
def wjX12_addTransition_149 (p1 : Int32) (p2 : Int32) (p3 : Int32) (p4 : Int32) (Q : Int32 → pt_M → Prop)   (M : pt_M) : Prop :=
  wjX12_addTransition_154 p1 p2 p3 p4 Q 1 M
def wjX12_addTransition_134 (p1 : Int32) (p2 : Int32) (p3 : Int32) (p4 : Int32) (Q : Int32 → pt_M → Prop)   (M : pt_M) : Prop :=
  (p4 = 0 → wjX12_addTransition_149 p1 p2 p3 p4 Q M) ∧ (¬ p4 = 0 → (¬ p1 = 0 → wjX12_addTransition_153 p1 p2 p3 p4 Q M) ∧ (p1 = 0 → (p4 = (-1) → wjX12_addTransition_153 p1 p2 p3 p4 Q M) ∧ (¬ p4 = (-1) → wjX12_addTransition_149 p1 p2 p3 p4 Q M)))
def wjX12_addTransition_119 (p1 : Int32) (p2 : Int32) (p3 : Int32) (p4 : Int32) (Q : Int32 → pt_M → Prop)   (M : pt_M) : Prop :=
  (¬ p2 = 1 → wjX12_addTransition_134 p1 p2 p3 p4 Q M) ∧ (p2 = 1 → wpX12_isIn p3 1 50 M (fun (r_128 : Int32) (M_128 : pt_M) => (r_128 = 0 → wjX12_addTransition_149 p1 p2 p3 p4 Q M_128) ∧ (¬ r_128 = 0 → wjX12_addTransition_134 p1 p2 p3 p4 Q M_128)))
def wjX12_addTransition_74 (p1 : Int32) (p2 : Int32) (p3 : Int32) (p4 : Int32) (Q : Int32 → pt_M → Prop)   (M : pt_M) : Prop :=
  Q 0 M
def wjX12_addTransition_67 (p1 : Int32) (p2 : Int32) (p3 : Int32) (p4 : Int32) (Q : Int32 → pt_M → Prop)  (xs1 : Int32) (M : pt_M) : Prop :=
  wpX12_refuse xs1 2 M (fun (r_68 : Int32) (M_68 : pt_M) => (r_68 = 0 → wpJx4a65c_get_915e3 p1 M_68 (fun (M_84 : pt_M) => wpX10_isOpen M_84 (fun (r_90 : Int32) (M_90 : pt_M) => (r_90 = 0 → wjX12_addTransition_149 p1 p2 p3 p4 Q M_90) ∧ (¬ r_90 = 0 → wpX12_isIn p2 0 3 M_90 (fun (r_99 : Int32) (M_99 : pt_M) => (r_99 = 0 → wjX12_addTransition_149 p1 p2 p3 p4 Q M_99) ∧ (¬ r_99 = 0 → (¬ p2 = 0 → wjX12_addTransition_119 p1 p2 p3 p4 Q M_99) ∧ (p2 = 0 → wpX12_isIn p3 0 9 M_99 (fun (r_113 : Int32) (M_113 : pt_M) => (r_113 = 0 → wjX12_addTransition_149 p1 p2 p3 p4 Q M_113) ∧ (¬ r_113 = 0 → wjX12_addTransition_119 p1 p2 p3 p4 Q M_113))))))))) ∧ (¬ r_68 = 0 → wjX12_addTransition_74 p1 p2 p3 p4 Q M_68))
def wjX12_addTransition_66 (p1 : Int32) (p2 : Int32) (p3 : Int32) (p4 : Int32) (Q : Int32 → pt_M → Prop)   (M : pt_M) : Prop :=
  wjX12_addTransition_67 p1 p2 p3 p4 Q 0 M
def wjX12_addTransition_62 (p1 : Int32) (p2 : Int32) (p3 : Int32) (p4 : Int32) (Q : Int32 → pt_M → Prop)   (M : pt_M) : Prop :=
  wjX12_addTransition_67 p1 p2 p3 p4 Q 1 M
def wjX12_addTransition_31 (p1 : Int32) (p2 : Int32) (p3 : Int32) (p4 : Int32) (Q : Int32 → pt_M → Prop)  (xs1 : Int32) (M : pt_M) : Prop :=
  wpX12_start xs1 1 M (fun (r_32 : Int32) (M_32 : pt_M) => (¬ r_32 = 0 → wjX12_addTransition_74 p1 p2 p3 p4 Q M_32) ∧ (r_32 = 0 → wpX12_isNoState p1 M_32 (fun (r_41 : Int32) (M_41 : pt_M) => (¬ r_41 = 0 → wjX12_addTransition_62 p1 p2 p3 p4 Q M_41) ∧ (r_41 = 0 → (p4 = (-1) → wjX12_addTransition_66 p1 p2 p3 p4 Q M_41) ∧ (¬ p4 = (-1) → wpX12_isNoState p4 M_41 (fun (r_56 : Int32) (M_56 : pt_M) => (r_56 = 0 → wjX12_addTransition_66 p1 p2 p3 p4 Q M_56) ∧ (¬ r_56 = 0 → wjX12_addTransition_62 p1 p2 p3 p4 Q M_56)))))))
def wjX12_addTransition_26 (p1 : Int32) (p2 : Int32) (p3 : Int32) (p4 : Int32) (Q : Int32 → pt_M → Prop)   (M : pt_M) : Prop :=
  wjX12_addTransition_31 p1 p2 p3 p4 Q 1 M
def wpX12_addTransition (p1 : Int32) (p2 : Int32) (p3 : Int32) (p4 : Int32) (M : pt_M) (Q : Int32 → pt_M → Prop) : Prop :=
  (¬ (M 6 0) = 0 → wjX12_addTransition_26 p1 p2 p3 p4 Q M) ∧ ((M 6 0) = 0 → wpJx4a65c_size_8abf5 5 M (fun (r_18 : Int32) (M_18 : pt_M) => (¬ r_18 = 30 → wjX12_addTransition_31 p1 p2 p3 p4 Q 0 M_18) ∧ (r_18 = 30 → wjX12_addTransition_26 p1 p2 p3 p4 Q M_18)))
set_option maxHeartbeats 4000000 in
set_option maxRecDepth 100000 in
theorem mtX12_addTransition (l : Launch) (D : va_G) (cA : Nat → ClassId) (ad : Nat → Nat) (hI : rt_I ad) (sz : Nat) (p1 : Int32) (p2 : Int32) (p3 : Int32) (p4 : Int32) (M : pt_M) (Q : Int32 → pt_M → Prop) (hw : wpX12_addTransition p1 p2 p3 p4 M Q) : Met l yX12_addTransition (Cond.code yX12_addTransition cX12_addTransition 6 (some .int) :: lw_all) ({ frames := 5, cells := 2, slots := 16, locals := 108 } : Room) (va_Pc [.ref (ad 0), .int p1, .int p2, .int p3, .int p4] (rt_P D cA ad sz M)) (va_Qi Q (fun (_ : pt_M) (_ : State) => True) (rt_fr ad sz)) 2 16 (rt_fr ad sz) := by
  refine Met.ofW (cc := cX12_addTransition) (maxL := 6) (ret := (some .int)) (by decide) rfl ?_
  intro p e s m args below meth c s₁ B hml hv
  obtain ⟨rfl, hsz, hP, hK, hN⟩ := hv
  have hx := B.exec
  have hb := B.bytes
  have hr := B.returns
  have hts0 := atoms_spec (ws := (Cond.code yX12_addTransition cX12_addTransition 6 (some .int) :: lw_all)) B.pre
  have hown : s.vm.findClass RX12 = some m.cls := findClass_of_methodNamed B.named
  have hlocks := B.notSynchronized
  subst hsz
  have F : pt_F p m c cX12_addTransition 6 s _ RX12 D cA := ⟨⟨hx, hb, hml, hown, fun w h => hts0 w (List.mem_cons_of_mem _ h)⟩, hK⟩
  have hD : ∀ M, va_D (rt_fr ad s.heap.size) (rt_W cA ad M) := rt_D hI (fun k h => Or.inl ⟨k, h, rfl⟩)
  have hS : va_S (rt_fr ad s.heap.size) s.heap s.heap [] := va_S.rf
  have hl := lv_entry ([.ref (ad 0), .int p1, .int p2, .int p3, .int p4]) (n := 6) (Nat.le_of_ble_eq_true rfl)
  rw [lg_entry_eq]
  generalize (lg_sl ([.ref (ad 0), .int p1, .int p2, .int p3, .int p4]) ++ List.replicate (6 - (lg_sl ([.ref (ad 0), .int p1, .int p2, .int p3, .int p4])).length) Slot.unset).toArray = ls at hl ⊢
  have hl : lv_has ls 6 [(0, .ref (ad 0)), (1, .int p1), (2, .int p2), (3, .int p3), (4, .int p4)] := hl
  have J154 : ∀ (xs0 : Int32) (M : pt_M) (H : Heap) (locs : List Loc) (ls : Array Slot), wjX12_addTransition_154 p1 p2 p3 p4 Q xs0 M → va_P D pt_cl (rt_W cA ad M) H → va_S (rt_fr ad s.heap.size) s.heap H locs → lv_has ls 6 [(0, .ref (ad 0)), (1, .int p1), (2, .int p2), (3, .int p3), (4, .int p4)] → W p l e (headSpec (Cond.code yX12_addTransition cX12_addTransition 6 (some .int) :: lw_all) ({ frames := 5, cells := 2, slots := 16, locals := 108 } : Room)).room s m ([.ref (ad 0), .int p1, .int p2, .int p3, .int p4] : List Value).toArray below meth c H locs 0 0 (MQ below (va_Qi Q (fun (_ : pt_M) (_ : State) => True) (rt_fr ad s.heap.size)) ([.ref (ad 0), .int p1, .int p2, .int p3, .int p4] : List Value).toArray s 2 16 (rt_fr ad s.heap.size)) (F0 m 154 ls [.int xs0]) := by
    intro xs0 M H locs ls hw hP hS hl
    unfold wjX12_addTransition_154 at hw
    refine lv_istore (lv' := [(5, .int xs0), (0, .ref (ad 0)), (1, .int p1), (2, .int p2), (3, .int p3), (4, .int p4)]) hx hb dX12_addTransition_154 hl (by decide) rfl (fun ls hl => ?_)
    refine lv_aload_n hx hb dX12_addTransition_156 rfl (lv_at hl 1 rfl) ?_
    refine lv_iload hx hb dX12_addTransition_157 (lv_at hl 0 rfl) ?_
    refine lv_iconst (v := 3) hx hb dX12_addTransition_159 (by decide) ?_
    refine rt_calli (rt_runV (n := 2) (As := [.int xs0, .int 3]) (rest := []) F hP hN hS (rt_frs hS.1) (rt_c12 _ rt_k0) (rt_l12 rt_k0) rfl (mtX12_refuse l D cA ad hI _ xs0 3 M _ hw) kw_1175 kw_1172 kw_60 kw_1174 kw_29 ⟨by decide, by decide, by decide +kernel⟩ ⟨rfl, rfl, Nat.le_of_ble_eq_true rfl, Nat.le_of_ble_eq_true rfl⟩ rfl hl.1 rfl (Nat.le_of_ble_eq_true rfl) dX12_addTransition_160 ⟨Nat.zero_le _, Nat.zero_le _⟩) hS (fun _ h => h) (fun r_160 M_160 H locs hw hP hS _ _ => ?_)
    refine lv_if_eq (tgt := 168) hx hb dX12_addTransition_163 (by decide) (fun hc163 => ?_) (fun hc163 => ?_)
    · replace hw := hw.1 hc163
      refine lv_aload_n hx hb dX12_addTransition_168 rfl (lv_at hl 1 rfl) ?_
      refine rt_get F hP (rt_c12 _ rt_k0) (rt_l12 rt_k0) inX12 rfl 1 (by decide) kw_1140 rfl rfl dX12_addTransition_169 ?_
      refine rt_get F hP (rt_c8 _ rt_k1) (rt_l8 rt_k1) inX8 rfl 1 (by decide) kw_988 rfl rfl dX12_addTransition_172 ?_
      have h0 := hw.1
      replace hw := hw.2
      replace hP := (show ∀ n : Int32, n = M_160 5 2 → va_P D pt_cl (([] : va_W) ++ [((ad 0), .inr (12, [.int (M_160 0 0), .ref (ad 1), .ref (ad 6), .ref (ad 12), .int (M_160 0 4)])), ((ad 1), .inr (8, [.ref (ad 2), .ref (ad 5)])), ((ad 2), .inr (13, [.int (M_160 2 0), .ref (ad 3), .int (M_160 2 2)])), ((ad 3), .inl (cA 4, 10, .inr (.inr (.inr (.inr (fun i => if i = 0 then some (ad 4) else none)))))), ((ad 4), .inr (10, [.int (M_160 4 0), .int (M_160 4 1), .int (M_160 4 2), .ref (ad 13), .ref (ad 13)])), ((ad 5), .inr (13, [.int (M_160 5 0), .ref (ad 14), .int n])), ((ad 6), .inr (9, [.int (M_160 6 0), .int (M_160 6 1), .ref (ad 7), .ref (ad 8), .ref (ad 9), .ref (ad 10), .ref (ad 11), .int (M_160 6 7), .int (M_160 6 8), .int (M_160 6 9), .ref (ad 0)])), ((ad 7), .inl (cA 0, 20, .inl (M_160 7))), ((ad 8), .inl (cA 0, 20, .inl (M_160 8))), ((ad 9), .inl (cA 0, 4, .inl (M_160 9))), ((ad 10), .inl (cA 0, 30, .inl (M_160 10))), ((ad 11), .inr (13, [.int (M_160 11 0), .ref (ad 14), .int (M_160 11 2)])), ((ad 12), .inl (cA 0, 0, .inl (M_160 12)))]) H from fun n e => by subst e; exact hP) 0 h0.symm
      replace hD := (show ∀ n : Int32, n = M_160 5 2 → va_D (rt_fr ad s.heap.size) (([] : va_W) ++ [((ad 0), .inr (12, [.int (M_160 0 0), .ref (ad 1), .ref (ad 6), .ref (ad 12), .int (M_160 0 4)])), ((ad 1), .inr (8, [.ref (ad 2), .ref (ad 5)])), ((ad 2), .inr (13, [.int (M_160 2 0), .ref (ad 3), .int (M_160 2 2)])), ((ad 3), .inl (cA 4, 10, .inr (.inr (.inr (.inr (fun i => if i = 0 then some (ad 4) else none)))))), ((ad 4), .inr (10, [.int (M_160 4 0), .int (M_160 4 1), .int (M_160 4 2), .ref (ad 13), .ref (ad 13)])), ((ad 5), .inr (13, [.int (M_160 5 0), .ref (ad 14), .int n])), ((ad 6), .inr (9, [.int (M_160 6 0), .int (M_160 6 1), .ref (ad 7), .ref (ad 8), .ref (ad 9), .ref (ad 10), .ref (ad 11), .int (M_160 6 7), .int (M_160 6 8), .int (M_160 6 9), .ref (ad 0)])), ((ad 7), .inl (cA 0, 20, .inl (M_160 7))), ((ad 8), .inl (cA 0, 20, .inl (M_160 8))), ((ad 9), .inl (cA 0, 4, .inl (M_160 9))), ((ad 10), .inl (cA 0, 30, .inl (M_160 10))), ((ad 11), .inr (13, [.int (M_160 11 0), .ref (ad 14), .int (M_160 11 2)])), ((ad 12), .inl (cA 0, 0, .inl (M_160 12)))]) from fun n e => by subst e; exact hD M_160) 0 h0.symm
      have hA : ∀ q, s.heap.size ≤ q → rt_fr ad s.heap.size q := fun q h => Or.inr h
      have s_cb : 2 ≤ (headSpec (Cond.code yX12_addTransition cX12_addTransition 6 (some .int) :: lw_all) ({ frames := 5, cells := 2, slots := 16, locals := 108 } : Room)).room.cells := (Nat.le_of_ble_eq_true rfl)
      have s_sb : 16 ≤ (headSpec (Cond.code yX12_addTransition cX12_addTransition 6 (some .int) :: lw_all) ({ frames := 5, cells := 2, slots := 16, locals := 108 } : Room)).room.slots := (Nat.le_of_ble_eq_true rfl)
      refine pt_ynew (ci := 11) (fs := [.int 0, .int 0, .int 0, .int 0, .null, .null]) F hP hD hS hA inX11 tyX11 tyX11_ok kw_1249 kw_1250 kw_81 rfl (fun j hj => by rcases (show j = 0 ∨ j = 1 ∨ j = 2 ∨ j = 3 ∨ j = 4 ∨ j = 5 by omega) with rfl | rfl | rfl | rfl | rfl | rfl <;> rfl) (Nat.le_trans (Nat.le_of_ble_eq_true rfl) s_cb) (Nat.le_trans (Nat.le_of_ble_eq_true rfl) s_sb) dX12_addTransition_175 (fun q175 H hP hD hS => ?_)
      replace hP : va_P D pt_cl (([] : va_W) ++ [((ad 0), .inr (12, [.int (M_160 0 0), .ref (ad 1), .ref (ad 6), .ref (ad 12), .int (M_160 0 4)])), ((ad 1), .inr (8, [.ref (ad 2), .ref (ad 5)])), ((ad 2), .inr (13, [.int (M_160 2 0), .ref (ad 3), .int (M_160 2 2)])), ((ad 3), .inl (cA 4, 10, .inr (.inr (.inr (.inr (fun i => if i = 0 then some (ad 4) else none)))))), ((ad 4), .inr (10, [.int (M_160 4 0), .int (M_160 4 1), .int (M_160 4 2), .ref (ad 13), .ref (ad 13)])), ((ad 5), .inr (13, [.int (M_160 5 0), .ref (ad 14), .int 0])), ((ad 6), .inr (9, [.int (M_160 6 0), .int (M_160 6 1), .ref (ad 7), .ref (ad 8), .ref (ad 9), .ref (ad 10), .ref (ad 11), .int (M_160 6 7), .int (M_160 6 8), .int (M_160 6 9), .ref (ad 0)])), ((ad 7), .inl (cA 0, 20, .inl (M_160 7))), ((ad 8), .inl (cA 0, 20, .inl (M_160 8))), ((ad 9), .inl (cA 0, 4, .inl (M_160 9))), ((ad 10), .inl (cA 0, 30, .inl (M_160 10))), ((ad 11), .inr (13, [.int (M_160 11 0), .ref (ad 14), .int (M_160 11 2)])), ((ad 12), .inl (cA 0, 0, .inl (M_160 12))), (q175, .inr (11, [.int 0, .int 0, .int 0, .int 0, .null, .null]))]) H := hP
      replace hD : va_D (rt_fr ad s.heap.size) (([] : va_W) ++ [((ad 0), .inr (12, [.int (M_160 0 0), .ref (ad 1), .ref (ad 6), .ref (ad 12), .int (M_160 0 4)])), ((ad 1), .inr (8, [.ref (ad 2), .ref (ad 5)])), ((ad 2), .inr (13, [.int (M_160 2 0), .ref (ad 3), .int (M_160 2 2)])), ((ad 3), .inl (cA 4, 10, .inr (.inr (.inr (.inr (fun i => if i = 0 then some (ad 4) else none)))))), ((ad 4), .inr (10, [.int (M_160 4 0), .int (M_160 4 1), .int (M_160 4 2), .ref (ad 13), .ref (ad 13)])), ((ad 5), .inr (13, [.int (M_160 5 0), .ref (ad 14), .int 0])), ((ad 6), .inr (9, [.int (M_160 6 0), .int (M_160 6 1), .ref (ad 7), .ref (ad 8), .ref (ad 9), .ref (ad 10), .ref (ad 11), .int (M_160 6 7), .int (M_160 6 8), .int (M_160 6 9), .ref (ad 0)])), ((ad 7), .inl (cA 0, 20, .inl (M_160 7))), ((ad 8), .inl (cA 0, 20, .inl (M_160 8))), ((ad 9), .inl (cA 0, 4, .inl (M_160 9))), ((ad 10), .inl (cA 0, 30, .inl (M_160 10))), ((ad 11), .inr (13, [.int (M_160 11 0), .ref (ad 14), .int (M_160 11 2)])), ((ad 12), .inl (cA 0, 0, .inl (M_160 12))), (q175, .inr (11, [.int 0, .int 0, .int 0, .int 0, .null, .null]))]) := hD
      refine W.widen (k := 1) (n := 6) (Nat.le_of_ble_eq_true rfl) (Nat.le_of_ble_eq_true rfl) ?_
      refine lv_dup hx hb dX12_addTransition_178 rfl ?_
      refine lv_iload_n hx hb dX12_addTransition_179 rfl (lv_at hl 2 rfl) ?_
      refine lv_iload_n hx hb dX12_addTransition_180 rfl (lv_at hl 3 rfl) ?_
      refine lv_iload_n hx hb dX12_addTransition_181 rfl (lv_at hl 4 rfl) ?_
      refine lv_iload hx hb dX12_addTransition_182 (lv_at hl 5 rfl) ?_
      refine sx_callv (wc := [(q175, .inr (11, [.int 0, .int 0, .int 0, .int 0, .null, .null]))]) (wr := [((ad 0), .inr (12, [.int (M_160 0 0), .ref (ad 1), .ref (ad 6), .ref (ad 12), .int (M_160 0 4)])), ((ad 1), .inr (8, [.ref (ad 2), .ref (ad 5)])), ((ad 2), .inr (13, [.int (M_160 2 0), .ref (ad 3), .int (M_160 2 2)])), ((ad 3), .inl (cA 4, 10, .inr (.inr (.inr (.inr (fun i => if i = 0 then some (ad 4) else none)))))), ((ad 4), .inr (10, [.int (M_160 4 0), .int (M_160 4 1), .int (M_160 4 2), .ref (ad 13), .ref (ad 13)])), ((ad 5), .inr (13, [.int (M_160 5 0), .ref (ad 14), .int 0])), ((ad 6), .inr (9, [.int (M_160 6 0), .int (M_160 6 1), .ref (ad 7), .ref (ad 8), .ref (ad 9), .ref (ad 10), .ref (ad 11), .int (M_160 6 7), .int (M_160 6 8), .int (M_160 6 9), .ref (ad 0)])), ((ad 7), .inl (cA 0, 20, .inl (M_160 7))), ((ad 8), .inl (cA 0, 20, .inl (M_160 8))), ((ad 9), .inl (cA 0, 4, .inl (M_160 9))), ((ad 10), .inl (cA 0, 30, .inl (M_160 10))), ((ad 11), .inr (13, [.int (M_160 11 0), .ref (ad 14), .int (M_160 11 2)])), ((ad 12), .inl (cA 0, 0, .inl (M_160 12)))]) (pt_krun (n := 4) (As := [.int p1, .int p2, .int p3, .int p4]) (rest := [.ref q175, .ref (ad 5)]) F (mtTR l D cA _ (ad 13) (ad 14) q175 p1 p2 p3 p4 ) sx_blind (sx_pre (wc := [(q175, .inr (11, [.int 0, .int 0, .int 0, .int 0, .null, .null]))]) F hP hD hN hS hA [13] rfl rfl) kw_1253 (Or.inl kw_1251) kw_81 kw_1252 rfl ⟨by decide, by decide, by decide +kernel⟩ ⟨rfl, rfl, (Nat.le_of_ble_eq_true rfl), (Nat.le_of_ble_eq_true rfl)⟩ rfl hl.1 rfl (Nat.le_of_ble_eq_true rfl) dX12_addTransition_184 ⟨(Nat.le_trans (Nat.le_of_ble_eq_true rfl) s_cb), (Nat.le_trans (Nat.le_of_ble_eq_true rfl) s_sb)⟩) hP hD hS hA [13] [0, 1, 2, 3, 4, 5, 6, 7, 8, 9, 10, 11, 12] rfl rfl rfl (by decide) (fun _ H locs _ hP hD hS => ?_)
      replace hP : va_P D pt_cl (([] : va_W) ++ [((ad 0), .inr (12, [.int (M_160 0 0), .ref (ad 1), .ref (ad 6), .ref (ad 12), .int (M_160 0 4)])), ((ad 1), .inr (8, [.ref (ad 2), .ref (ad 5)])), ((ad 2), .inr (13, [.int (M_160 2 0), .ref (ad 3), .int (M_160 2 2)])), ((ad 3), .inl (cA 4, 10, .inr (.inr (.inr (.inr (fun i => if i = 0 then some (ad 4) else none)))))), ((ad 4), .inr (10, [.int (M_160 4 0), .int (M_160 4 1), .int (M_160 4 2), .ref (ad 13), .ref (ad 13)])), ((ad 5), .inr (13, [.int (M_160 5 0), .ref (ad 14), .int 0])), ((ad 6), .inr (9, [.int (M_160 6 0), .int (M_160 6 1), .ref (ad 7), .ref (ad 8), .ref (ad 9), .ref (ad 10), .ref (ad 11), .int (M_160 6 7), .int (M_160 6 8), .int (M_160 6 9), .ref (ad 0)])), ((ad 7), .inl (cA 0, 20, .inl (M_160 7))), ((ad 8), .inl (cA 0, 20, .inl (M_160 8))), ((ad 9), .inl (cA 0, 4, .inl (M_160 9))), ((ad 10), .inl (cA 0, 30, .inl (M_160 10))), ((ad 11), .inr (13, [.int (M_160 11 0), .ref (ad 14), .int (M_160 11 2)])), ((ad 12), .inl (cA 0, 0, .inl (M_160 12))), (q175, .inr (11, [.int p1, .int p2, .int p3, .int p4, .ref (ad 13), .ref (ad 13)]))]) H := hP
      replace hD : va_D (rt_fr ad s.heap.size) (([] : va_W) ++ [((ad 0), .inr (12, [.int (M_160 0 0), .ref (ad 1), .ref (ad 6), .ref (ad 12), .int (M_160 0 4)])), ((ad 1), .inr (8, [.ref (ad 2), .ref (ad 5)])), ((ad 2), .inr (13, [.int (M_160 2 0), .ref (ad 3), .int (M_160 2 2)])), ((ad 3), .inl (cA 4, 10, .inr (.inr (.inr (.inr (fun i => if i = 0 then some (ad 4) else none)))))), ((ad 4), .inr (10, [.int (M_160 4 0), .int (M_160 4 1), .int (M_160 4 2), .ref (ad 13), .ref (ad 13)])), ((ad 5), .inr (13, [.int (M_160 5 0), .ref (ad 14), .int 0])), ((ad 6), .inr (9, [.int (M_160 6 0), .int (M_160 6 1), .ref (ad 7), .ref (ad 8), .ref (ad 9), .ref (ad 10), .ref (ad 11), .int (M_160 6 7), .int (M_160 6 8), .int (M_160 6 9), .ref (ad 0)])), ((ad 7), .inl (cA 0, 20, .inl (M_160 7))), ((ad 8), .inl (cA 0, 20, .inl (M_160 8))), ((ad 9), .inl (cA 0, 4, .inl (M_160 9))), ((ad 10), .inl (cA 0, 30, .inl (M_160 10))), ((ad 11), .inr (13, [.int (M_160 11 0), .ref (ad 14), .int (M_160 11 2)])), ((ad 12), .inl (cA 0, 0, .inl (M_160 12))), (q175, .inr (11, [.int p1, .int p2, .int p3, .int p4, .ref (ad 13), .ref (ad 13)]))]) := hD
      refine W.widen (k := 1) (n := 6) (Nat.le_of_ble_eq_true rfl) (Nat.le_of_ble_eq_true rfl) ?_
      refine sx_calli (wc := [((ad 5), .inr (13, [.int (M_160 5 0), .ref (ad 14), .int 0])), (q175, .inr (11, [.int p1, .int p2, .int p3, .int p4, .ref (ad 13), .ref (ad 13)]))]) (wr := [((ad 0), .inr (12, [.int (M_160 0 0), .ref (ad 1), .ref (ad 6), .ref (ad 12), .int (M_160 0 4)])), ((ad 1), .inr (8, [.ref (ad 2), .ref (ad 5)])), ((ad 2), .inr (13, [.int (M_160 2 0), .ref (ad 3), .int (M_160 2 2)])), ((ad 3), .inl (cA 4, 10, .inr (.inr (.inr (.inr (fun i => if i = 0 then some (ad 4) else none)))))), ((ad 4), .inr (10, [.int (M_160 4 0), .int (M_160 4 1), .int (M_160 4 2), .ref (ad 13), .ref (ad 13)])), ((ad 6), .inr (9, [.int (M_160 6 0), .int (M_160 6 1), .ref (ad 7), .ref (ad 8), .ref (ad 9), .ref (ad 10), .ref (ad 11), .int (M_160 6 7), .int (M_160 6 8), .int (M_160 6 9), .ref (ad 0)])), ((ad 7), .inl (cA 0, 20, .inl (M_160 7))), ((ad 8), .inl (cA 0, 20, .inl (M_160 8))), ((ad 9), .inl (cA 0, 4, .inl (M_160 9))), ((ad 10), .inl (cA 0, 30, .inl (M_160 10))), ((ad 11), .inr (13, [.int (M_160 11 0), .ref (ad 14), .int (M_160 11 2)])), ((ad 12), .inl (cA 0, 0, .inl (M_160 12)))]) (sx_runV (n := 1) (As := [.ref q175]) (rest := []) F hP 5 rfl rfl (mtA1f l D cA _ (ad 13) (ad 14) ((ad 5)) q175 ((M_160 5 0)) 11 ([.int p1, .int p2, .int p3, .int p4, .ref (ad 13), .ref (ad 13)]) (show pt_cl[11]? = some (RX11, TX11, 6) from rfl) kw_1659) sx_blind (sx_pre (wc := [((ad 5), .inr (13, [.int (M_160 5 0), .ref (ad 14), .int 0])), (q175, .inr (11, [.int p1, .int p2, .int p3, .int p4, .ref (ad 13), .ref (ad 13)]))]) F hP hD hN hS hA [5, 13] rfl rfl) kw_1083 kw_1080 kw_64 kw_1081 kw_1082 ⟨by decide, by decide, by decide +kernel⟩ ⟨rfl, rfl, (Nat.le_of_ble_eq_true rfl), (Nat.le_of_ble_eq_true rfl)⟩ rfl hl.1 rfl (Nat.le_of_ble_eq_true rfl) dX12_addTransition_187 ⟨(Nat.le_trans (Nat.le_of_ble_eq_true rfl) s_cb), (Nat.le_trans (Nat.le_of_ble_eq_true rfl) s_sb)⟩) hP hD hS hA [5, 13] [0, 1, 2, 3, 4, 6, 7, 8, 9, 10, 11, 12] rfl rfl rfl (by decide) (fun r_187 q52_7_7_20_187 H locs e_187 hP hD hS => ?_)
      obtain rfl := e_187
      replace hP : va_P D pt_cl (([] : va_W) ++ [((ad 0), .inr (12, [.int (M_160 0 0), .ref (ad 1), .ref (ad 6), .ref (ad 12), .int (M_160 0 4)])), ((ad 1), .inr (8, [.ref (ad 2), .ref (ad 5)])), ((ad 2), .inr (13, [.int (M_160 2 0), .ref (ad 3), .int (M_160 2 2)])), ((ad 3), .inl (cA 4, 10, .inr (.inr (.inr (.inr (fun i => if i = 0 then some (ad 4) else none)))))), ((ad 4), .inr (10, [.int (M_160 4 0), .int (M_160 4 1), .int (M_160 4 2), .ref (ad 13), .ref (ad 13)])), ((ad 6), .inr (9, [.int (M_160 6 0), .int (M_160 6 1), .ref (ad 7), .ref (ad 8), .ref (ad 9), .ref (ad 10), .ref (ad 11), .int (M_160 6 7), .int (M_160 6 8), .int (M_160 6 9), .ref (ad 0)])), ((ad 7), .inl (cA 0, 20, .inl (M_160 7))), ((ad 8), .inl (cA 0, 20, .inl (M_160 8))), ((ad 9), .inl (cA 0, 4, .inl (M_160 9))), ((ad 10), .inl (cA 0, 30, .inl (M_160 10))), ((ad 11), .inr (13, [.int (M_160 11 0), .ref (ad 14), .int (M_160 11 2)])), ((ad 12), .inl (cA 0, 0, .inl (M_160 12))), (q175, .inr (11, [q175, s])), ((ad 5), .inr (13, [.int ((M_160 5 0) + 1), .ref q52_7_7_20_187, .int (0 + 1)])), (q52_7_7_20_187, .inl (cA 4, 10, .inr (.inr (.inr (.inr (fun i => if i = 0 then some q175 else none))))))]) H := hP
      replace hD : va_D (rt_fr ad s.heap.size) (([] : va_W) ++ [((ad 0), .inr (12, [.int (M_160 0 0), .ref (ad 1), .ref (ad 6), .ref (ad 12), .int (M_160 0 4)])), ((ad 1), .inr (8, [.ref (ad 2), .ref (ad 5)])), ((ad 2), .inr (13, [.int (M_160 2 0), .ref (ad 3), .int (M_160 2 2)])), ((ad 3), .inl (cA 4, 10, .inr (.inr (.inr (.inr (fun i => if i = 0 then some (ad 4) else none)))))), ((ad 4), .inr (10, [.int (M_160 4 0), .int (M_160 4 1), .int (M_160 4 2), .ref (ad 13), .ref (ad 13)])), ((ad 6), .inr (9, [.int (M_160 6 0), .int (M_160 6 1), .ref (ad 7), .ref (ad 8), .ref (ad 9), .ref (ad 10), .ref (ad 11), .int (M_160 6 7), .int (M_160 6 8), .int (M_160 6 9), .ref (ad 0)])), ((ad 7), .inl (cA 0, 20, .inl (M_160 7))), ((ad 8), .inl (cA 0, 20, .inl (M_160 8))), ((ad 9), .inl (cA 0, 4, .inl (M_160 9))), ((ad 10), .inl (cA 0, 30, .inl (M_160 10))), ((ad 11), .inr (13, [.int (M_160 11 0), .ref (ad 14), .int (M_160 11 2)])), ((ad 12), .inl (cA 0, 0, .inl (M_160 12))), (q175, .inr (11, [q175, s])), ((ad 5), .inr (13, [.int ((M_160 5 0) + 1), .ref q52_7_7_20_187, .int (0 + 1)])), (q52_7_7_20_187, .inl (cA 4, 10, .inr (.inr (.inr (.inr (fun i => if i = 0 then some q175 else none))))))]) := hD
      refine W.widen (k := 2) (n := 16) (Nat.le_of_ble_eq_true rfl) (Nat.le_of_ble_eq_true rfl) ?_
      refine lv_pop hx hb dX12_addTransition_190 rfl ?_
      refine lv_aload_n hx hb dX12_addTransition_191 rfl (lv_at hl 1 rfl) ?_
      refine sx_get F hP 0 rfl inX12 rfl 1 (by decide) kw_1140 rfl rfl dX12_addTransition_192 ?_
      refine sx_get F hP 1 rfl inX8 rfl 1 (by decide) kw_988 rfl rfl dX12_addTransition_195 ?_
      refine sx_calli (wc := [((ad 5), .inr (13, [.int ((M_160 5 0) + 1), .ref q52_7_7_20_187, .int (0 + 1)]))]) (wr := [((ad 0), .inr (12, [.int (M_160 0 0), .ref (ad 1), .ref (ad 6), .ref (ad 12), .int (M_160 0 4)])), ((ad 1), .inr (8, [.ref (ad 2), .ref (ad 5)])), ((ad 2), .inr (13, [.int (M_160 2 0), .ref (ad 3), .int (M_160 2 2)])), ((ad 3), .inl (cA 4, 10, .inr (.inr (.inr (.inr (fun i => if i = 0 then some (ad 4) else none)))))), ((ad 4), .inr (10, [.int (M_160 4 0), .int (M_160 4 1), .int (M_160 4 2), .ref (ad 13), .ref (ad 13)])), ((ad 6), .inr (9, [.int (M_160 6 0), .int (M_160 6 1), .ref (ad 7), .ref (ad 8), .ref (ad 9), .ref (ad 10), .ref (ad 11), .int (M_160 6 7), .int (M_160 6 8), .int (M_160 6 9), .ref (ad 0)])), ((ad 7), .inl (cA 0, 20, .inl (M_160 7))), ((ad 8), .inl (cA 0, 20, .inl (M_160 8))), ((ad 9), .inl (cA 0, 4, .inl (M_160 9))), ((ad 10), .inl (cA 0, 30, .inl (M_160 10))), ((ad 11), .inr (13, [.int (M_160 11 0), .ref (ad 14), .int (M_160 11 2)])), ((ad 12), .inl (cA 0, 0, .inl (M_160 12))), (q175, .inr (11, [q175, s])), (q52_7_7_20_187, .inl (cA 4, 10, .inr (.inr (.inr (.inr (fun i => if i = 0 then some q175 else none))))))]) (sx_runV (n := 0) (As := []) (rest := []) F hP 13 rfl rfl (mtSZ l D cA _ (ad 13) (ad 14) ((ad 5)) (((M_160 5 0) + 1)) q52_7_7_20_187 ((0 + 1)) ) sx_blind (sx_pre (wc := [((ad 5), .inr (13, [.int ((M_160 5 0) + 1), .ref q52_7_7_20_187, .int (0 + 1)]))]) F hP hD hN hS hA [13] rfl rfl) kw_1167 kw_1164 kw_64 kw_1165 kw_1166 ⟨by decide, by decide, by decide +kernel⟩ ⟨rfl, rfl, (Nat.le_of_ble_eq_true rfl), (Nat.le_of_ble_eq_true rfl)⟩ rfl hl.1 rfl (Nat.le_of_ble_eq_true rfl) dX12_addTransition_198 ⟨(Nat.le_trans (Nat.le_of_ble_eq_true rfl) s_cb), (Nat.le_trans (Nat.le_of_ble_eq_true rfl) s_sb)⟩) hP hD hS hA [13] [0, 1, 2, 3, 4, 5, 6, 7, 8, 9, 10, 11, 12, 14] rfl rfl rfl (by decide) (fun r_198 _ H locs e_198 hP hD hS => ?_)
      obtain rfl := e_198
      replace hP : va_P D pt_cl (([] : va_W) ++ [((ad 0), .inr (12, [.int (M_160 0 0), .ref (ad 1), .ref (ad 6), .ref (ad 12), .int (M_160 0 4)])), ((ad 1), .inr (8, [.ref (ad 2), .ref (ad 5)])), ((ad 2), .inr (13, [.int (M_160 2 0), .ref (ad 3), .int (M_160 2 2)])), ((ad 3), .inl (cA 4, 10, .inr (.inr (.inr (.inr (fun i => if i = 0 then some (ad 4) else none)))))), ((ad 4), .inr (10, [.int (M_160 4 0), .int (M_160 4 1), .int (M_160 4 2), .ref (ad 13), .ref (ad 13)])), ((ad 6), .inr (9, [.int (M_160 6 0), .int (M_160 6 1), .ref (ad 7), .ref (ad 8), .ref (ad 9), .ref (ad 10), .ref (ad 11), .int (M_160 6 7), .int (M_160 6 8), .int (M_160 6 9), .ref (ad 0)])), ((ad 7), .inl (cA 0, 20, .inl (M_160 7))), ((ad 8), .inl (cA 0, 20, .inl (M_160 8))), ((ad 9), .inl (cA 0, 4, .inl (M_160 9))), ((ad 10), .inl (cA 0, 30, .inl (M_160 10))), ((ad 11), .inr (13, [.int (M_160 11 0), .ref (ad 14), .int (M_160 11 2)])), ((ad 12), .inl (cA 0, 0, .inl (M_160 12))), (q175, .inr (11, [q175, s])), (q52_7_7_20_187, .inl (cA 4, 10, .inr (.inr (.inr (.inr (fun i => if i = 0 then some q175 else none)))))), ((ad 5), .inr (13, [.int ((M_160 5 0) + 1), .ref q52_7_7_20_187, .int (0 + 1)]))]) H := hP
      replace hD : va_D (rt_fr ad s.heap.size) (([] : va_W) ++ [((ad 0), .inr (12, [.int (M_160 0 0), .ref (ad 1), .ref (ad 6), .ref (ad 12), .int (M_160 0 4)])), ((ad 1), .inr (8, [.ref (ad 2), .ref (ad 5)])), ((ad 2), .inr (13, [.int (M_160 2 0), .ref (ad 3), .int (M_160 2 2)])), ((ad 3), .inl (cA 4, 10, .inr (.inr (.inr (.inr (fun i => if i = 0 then some (ad 4) else none)))))), ((ad 4), .inr (10, [.int (M_160 4 0), .int (M_160 4 1), .int (M_160 4 2), .ref (ad 13), .ref (ad 13)])), ((ad 6), .inr (9, [.int (M_160 6 0), .int (M_160 6 1), .ref (ad 7), .ref (ad 8), .ref (ad 9), .ref (ad 10), .ref (ad 11), .int (M_160 6 7), .int (M_160 6 8), .int (M_160 6 9), .ref (ad 0)])), ((ad 7), .inl (cA 0, 20, .inl (M_160 7))), ((ad 8), .inl (cA 0, 20, .inl (M_160 8))), ((ad 9), .inl (cA 0, 4, .inl (M_160 9))), ((ad 10), .inl (cA 0, 30, .inl (M_160 10))), ((ad 11), .inr (13, [.int (M_160 11 0), .ref (ad 14), .int (M_160 11 2)])), ((ad 12), .inl (cA 0, 0, .inl (M_160 12))), (q175, .inr (11, [q175, s])), (q52_7_7_20_187, .inl (cA 4, 10, .inr (.inr (.inr (.inr (fun i => if i = 0 then some q175 else none)))))), ((ad 5), .inr (13, [.int ((M_160 5 0) + 1), .ref q52_7_7_20_187, .int (0 + 1)]))]) := hD
      refine W.widen (k := 2) (n := 16) (Nat.le_of_ble_eq_true rfl) (Nat.le_of_ble_eq_true rfl) ?_
      refine lv_iconst (v := 1) hx hb dX12_addTransition_201 (by decide) ?_
      refine lv_isub hx hb dX12_addTransition_202 ?_
      exact W.iret (v := ((0 + 1) - 1)) hx hb hr (fun t ht hW => ⟨⟨_, M_160, rfl, hw, trivial⟩, hS.F ht⟩) hS.2.2 dX12_addTransition_203
    · replace hw := hw.2 hc163
      refine lv_iconst (v := 0) hx hb dX12_addTransition_166 (by decide) ?_
      refine W.widen (k := 2) (n := 16) (Nat.le_of_ble_eq_true rfl) (Nat.le_of_ble_eq_true rfl) ?_
      exact W.iret (v := 0) hx hb hr (fun t ht hW => ⟨⟨0, M_160, rfl, hw, trivial⟩, hS.F ht⟩) hS.2.2 dX12_addTransition_167
  have J153 : ∀ (M : pt_M) (H : Heap) (locs : List Loc) (ls : Array Slot), wjX12_addTransition_153 p1 p2 p3 p4 Q M → va_P D pt_cl (rt_W cA ad M) H → va_S (rt_fr ad s.heap.size) s.heap H locs → lv_has ls 6 [(0, .ref (ad 0)), (1, .int p1), (2, .int p2), (3, .int p3), (4, .int p4)] → W p l e (headSpec (Cond.code yX12_addTransition cX12_addTransition 6 (some .int) :: lw_all) ({ frames := 5, cells := 2, slots := 16, locals := 108 } : Room)).room s m ([.ref (ad 0), .int p1, .int p2, .int p3, .int p4] : List Value).toArray below meth c H locs 0 0 (MQ below (va_Qi Q (fun (_ : pt_M) (_ : State) => True) (rt_fr ad s.heap.size)) ([.ref (ad 0), .int p1, .int p2, .int p3, .int p4] : List Value).toArray s 2 16 (rt_fr ad s.heap.size)) (F0 m 153 ls []) := by
    intro M H locs ls hw hP hS hl
    unfold wjX12_addTransition_153 at hw
    refine lv_iconst (v := 0) hx hb dX12_addTransition_153 (by decide) ?_
    exact J154 0 M _ _ _ hw hP hS (lv_sub hl [0, 1, 2, 3, 4] rfl)
  have J149 : ∀ (M : pt_M) (H : Heap) (locs : List Loc) (ls : Array Slot), wjX12_addTransition_149 p1 p2 p3 p4 Q M → va_P D pt_cl (rt_W cA ad M) H → va_S (rt_fr ad s.heap.size) s.heap H locs → lv_has ls 6 [(0, .ref (ad 0)), (1, .int p1), (2, .int p2), (3, .int p3), (4, .int p4)] → W p l e (headSpec (Cond.code yX12_addTransition cX12_addTransition 6 (some .int) :: lw_all) ({ frames := 5, cells := 2, slots := 16, locals := 108 } : Room)).room s m ([.ref (ad 0), .int p1, .int p2, .int p3, .int p4] : List Value).toArray below meth c H locs 0 0 (MQ below (va_Qi Q (fun (_ : pt_M) (_ : State) => True) (rt_fr ad s.heap.size)) ([.ref (ad 0), .int p1, .int p2, .int p3, .int p4] : List Value).toArray s 2 16 (rt_fr ad s.heap.size)) (F0 m 149 ls []) := by
    intro M H locs ls hw hP hS hl
    unfold wjX12_addTransition_149 at hw
    refine lv_iconst (v := 1) hx hb dX12_addTransition_149 (by decide) ?_
    refine lv_goto (tgt := 154) hx hb dX12_addTransition_150 (by decide) ?_
    exact J154 1 M _ _ _ hw hP hS (lv_sub hl [0, 1, 2, 3, 4] rfl)
  have J134 : ∀ (M : pt_M) (H : Heap) (locs : List Loc) (ls : Array Slot), wjX12_addTransition_134 p1 p2 p3 p4 Q M → va_P D pt_cl (rt_W cA ad M) H → va_S (rt_fr ad s.heap.size) s.heap H locs → lv_has ls 6 [(0, .ref (ad 0)), (1, .int p1), (2, .int p2), (3, .int p3), (4, .int p4)] → W p l e (headSpec (Cond.code yX12_addTransition cX12_addTransition 6 (some .int) :: lw_all) ({ frames := 5, cells := 2, slots := 16, locals := 108 } : Room)).room s m ([.ref (ad 0), .int p1, .int p2, .int p3, .int p4] : List Value).toArray below meth c H locs 0 0 (MQ below (va_Qi Q (fun (_ : pt_M) (_ : State) => True) (rt_fr ad s.heap.size)) ([.ref (ad 0), .int p1, .int p2, .int p3, .int p4] : List Value).toArray s 2 16 (rt_fr ad s.heap.size)) (F0 m 134 ls []) := by
    intro M H locs ls hw hP hS hl
    unfold wjX12_addTransition_134 at hw
    refine lv_iload hx hb dX12_addTransition_134 (lv_at hl 4 rfl) ?_
    refine lv_if_eq (tgt := 149) hx hb dX12_addTransition_136 (by decide) (fun hc136 => ?_) (fun hc136 => ?_)
    · replace hw := hw.1 hc136
      exact J149 M _ _ _ hw hP hS (lv_sub hl [0, 1, 2, 3, 4] rfl)
    · replace hw := hw.2 hc136
      refine lv_iload_n hx hb dX12_addTransition_139 rfl (lv_at hl 1 rfl) ?_
      refine lv_if_ne (tgt := 153) hx hb dX12_addTransition_140 (by decide) (fun hc140 => ?_) (fun hc140 => ?_)
      · replace hw := hw.1 hc140
        exact J153 M _ _ _ hw hP hS (lv_sub hl [0, 1, 2, 3, 4] rfl)
      · replace hw := hw.2 hc140
        refine lv_iload hx hb dX12_addTransition_143 (lv_at hl 4 rfl) ?_
        refine lv_iconst (v := (-1)) hx hb dX12_addTransition_145 (by decide) ?_
        refine lv_icmp_eq (tgt := 153) hx hb dX12_addTransition_146 (by decide) (fun hc146 => ?_) (fun hc146 => ?_)
        · replace hw := hw.1 hc146
          exact J153 M _ _ _ hw hP hS (lv_sub hl [0, 1, 2, 3, 4] rfl)
        · replace hw := hw.2 hc146
          exact J149 M _ _ _ hw hP hS (lv_sub hl [0, 1, 2, 3, 4] rfl)
  have J119 : ∀ (M : pt_M) (H : Heap) (locs : List Loc) (ls : Array Slot), wjX12_addTransition_119 p1 p2 p3 p4 Q M → va_P D pt_cl (rt_W cA ad M) H → va_S (rt_fr ad s.heap.size) s.heap H locs → lv_has ls 6 [(0, .ref (ad 0)), (1, .int p1), (2, .int p2), (3, .int p3), (4, .int p4)] → W p l e (headSpec (Cond.code yX12_addTransition cX12_addTransition 6 (some .int) :: lw_all) ({ frames := 5, cells := 2, slots := 16, locals := 108 } : Room)).room s m ([.ref (ad 0), .int p1, .int p2, .int p3, .int p4] : List Value).toArray below meth c H locs 0 0 (MQ below (va_Qi Q (fun (_ : pt_M) (_ : State) => True) (rt_fr ad s.heap.size)) ([.ref (ad 0), .int p1, .int p2, .int p3, .int p4] : List Value).toArray s 2 16 (rt_fr ad s.heap.size)) (F0 m 119 ls []) := by
    intro M H locs ls hw hP hS hl
    unfold wjX12_addTransition_119 at hw
    refine lv_iload_n hx hb dX12_addTransition_119 rfl (lv_at hl 2 rfl) ?_
    refine lv_iconst (v := 1) hx hb dX12_addTransition_120 (by decide) ?_
    refine lv_icmp_ne (tgt := 134) hx hb dX12_addTransition_121 (by decide) (fun hc121 => ?_) (fun hc121 => ?_)
    · replace hw := hw.1 hc121
      exact J134 M _ _ _ hw hP hS (lv_sub hl [0, 1, 2, 3, 4] rfl)
    · replace hw := hw.2 hc121
      refine lv_iload_n hx hb dX12_addTransition_124 rfl (lv_at hl 3 rfl) ?_
      refine lv_iconst (v := 1) hx hb dX12_addTransition_125 (by decide) ?_
      refine lv_bipush (v := 50) hx hb dX12_addTransition_126 (by decide) ?_
      refine rt_calli (rt_runS (n := 3) (As := [.int p3, .int 1, .int 50]) (rest := []) F hP hN hS (rt_frs hS.1) (mtX12_isIn l D cA ad hI _ p3 1 50 M _ hw) kw_1182 kw_1180 kw_60 kw_1181 ⟨by decide, by decide, by decide +kernel⟩ ⟨rfl, rfl, Nat.le_of_ble_eq_true rfl, Nat.le_of_ble_eq_true rfl⟩ rfl hl.1 rfl (Nat.le_of_ble_eq_true rfl) dX12_addTransition_128 ⟨Nat.zero_le _, Nat.zero_le _⟩) hS (fun _ h => h) (fun r_128 M_128 H locs hw hP hS _ _ => ?_)
      refine lv_if_eq (tgt := 149) hx hb dX12_addTransition_131 (by decide) (fun hc131 => ?_) (fun hc131 => ?_)
      · replace hw := hw.1 hc131
        exact J149 M_128 _ _ _ hw hP hS (lv_sub hl [0, 1, 2, 3, 4] rfl)
      · replace hw := hw.2 hc131
        exact J134 M_128 _ _ _ hw hP hS (lv_sub hl [0, 1, 2, 3, 4] rfl)
  have J74 : ∀ (M : pt_M) (H : Heap) (locs : List Loc) (ls : Array Slot), wjX12_addTransition_74 p1 p2 p3 p4 Q M → va_P D pt_cl (rt_W cA ad M) H → va_S (rt_fr ad s.heap.size) s.heap H locs → lv_has ls 6 [] → W p l e (headSpec (Cond.code yX12_addTransition cX12_addTransition 6 (some .int) :: lw_all) ({ frames := 5, cells := 2, slots := 16, locals := 108 } : Room)).room s m ([.ref (ad 0), .int p1, .int p2, .int p3, .int p4] : List Value).toArray below meth c H locs 0 0 (MQ below (va_Qi Q (fun (_ : pt_M) (_ : State) => True) (rt_fr ad s.heap.size)) ([.ref (ad 0), .int p1, .int p2, .int p3, .int p4] : List Value).toArray s 2 16 (rt_fr ad s.heap.size)) (F0 m 74 ls []) := by
    intro M H locs ls hw hP hS hl
    unfold wjX12_addTransition_74 at hw
    refine lv_iconst (v := 0) hx hb dX12_addTransition_74 (by decide) ?_
    refine W.widen (k := 2) (n := 16) (Nat.le_of_ble_eq_true rfl) (Nat.le_of_ble_eq_true rfl) ?_
    exact W.iret (v := 0) hx hb hr (fun t ht hW => ⟨⟨0, M, rfl, hw, trivial⟩, hS.F ht⟩) hS.2.2 dX12_addTransition_75
  have J67 : ∀ (xs1 : Int32) (M : pt_M) (H : Heap) (locs : List Loc) (ls : Array Slot), wjX12_addTransition_67 p1 p2 p3 p4 Q xs1 M → va_P D pt_cl (rt_W cA ad M) H → va_S (rt_fr ad s.heap.size) s.heap H locs → lv_has ls 6 [(0, .ref (ad 0)), (1, .int p1), (2, .int p2), (3, .int p3), (4, .int p4)] → W p l e (headSpec (Cond.code yX12_addTransition cX12_addTransition 6 (some .int) :: lw_all) ({ frames := 5, cells := 2, slots := 16, locals := 108 } : Room)).room s m ([.ref (ad 0), .int p1, .int p2, .int p3, .int p4] : List Value).toArray below meth c H locs 0 0 (MQ below (va_Qi Q (fun (_ : pt_M) (_ : State) => True) (rt_fr ad s.heap.size)) ([.ref (ad 0), .int p1, .int p2, .int p3, .int p4] : List Value).toArray s 2 16 (rt_fr ad s.heap.size)) (F0 m 67 ls [.int xs1, .ref (ad 0)]) := by
    intro xs1 M H locs ls hw hP hS hl
    unfold wjX12_addTransition_67 at hw
    refine lv_iconst (v := 2) hx hb dX12_addTransition_67 (by decide) ?_
    refine rt_calli (rt_runV (n := 2) (As := [.int xs1, .int 2]) (rest := []) F hP hN hS (rt_frs hS.1) (rt_c12 _ rt_k0) (rt_l12 rt_k0) rfl (mtX12_refuse l D cA ad hI _ xs1 2 M _ hw) kw_1175 kw_1172 kw_60 kw_1174 kw_29 ⟨by decide, by decide, by decide +kernel⟩ ⟨rfl, rfl, Nat.le_of_ble_eq_true rfl, Nat.le_of_ble_eq_true rfl⟩ rfl hl.1 rfl (Nat.le_of_ble_eq_true rfl) dX12_addTransition_68 ⟨Nat.zero_le _, Nat.zero_le _⟩) hS (fun _ h => h) (fun r_68 M_68 H locs hw hP hS _ _ => ?_)
    refine lv_if_eq (tgt := 76) hx hb dX12_addTransition_71 (by decide) (fun hc71 => ?_) (fun hc71 => ?_)
    · replace hw := hw.1 hc71
      refine lv_aload_n hx hb dX12_addTransition_76 rfl (lv_at hl 0 rfl) ?_
      refine rt_get F hP (rt_c12 _ rt_k0) (rt_l12 rt_k0) inX12 rfl 1 (by decide) kw_1140 rfl rfl dX12_addTransition_77 ?_
      refine rt_get F hP (rt_c8 _ rt_k1) (rt_l8 rt_k1) inX8 rfl 0 (by decide) kw_985 rfl rfl dX12_addTransition_80 ?_
      refine lv_iload_n hx hb dX12_addTransition_83 rfl (lv_at hl 1 rfl) ?_
      refine rt_call4 (rt_runV (n := 1) (As := [.int p1]) (rest := []) F hP hN hS (rt_frs hS.1) (rt_c13 _ rt_k2) (rt_l13 rt_k2) rfl (mtJx4a65c_get_915e3 l D cA ad hI _ p1 M_68 _ hw) kw_1186 kw_1183 kw_64 kw_1184 kw_1185 ⟨by decide, by decide, by decide +kernel⟩ ⟨rfl, rfl, (Nat.le_of_ble_eq_true rfl), (Nat.le_of_ble_eq_true rfl)⟩ rfl hl.1 rfl (Nat.le_of_ble_eq_true rfl) dX12_addTransition_84 ⟨Nat.zero_le _, Nat.zero_le _⟩) hS (fun _ h => h) (fun M_84 H locs hw hP hS _ _ => ?_)
      refine rt_cast4 F hP kw_1046 dX12_addTransition_87 ?_
      refine rt_calli (rt_runV (n := 0) (As := []) (rest := []) F hP hN hS (rt_frs hS.1) (rt_c10 _ rt_k4) (rt_l10 rt_k4) rfl (mtX10_isOpen l D cA ad hI _ M_84 _ hw) kw_1200 kw_1197 kw_66 kw_1198 kw_1199 ⟨by decide, by decide, by decide +kernel⟩ ⟨rfl, rfl, Nat.le_of_ble_eq_true rfl, Nat.le_of_ble_eq_true rfl⟩ rfl hl.1 rfl (Nat.le_of_ble_eq_true rfl) dX12_addTransition_90 ⟨Nat.zero_le _, Nat.zero_le _⟩) hS (fun _ h => h) (fun r_90 M_90 H locs hw hP hS _ _ => ?_)
      refine lv_if_eq (tgt := 149) hx hb dX12_addTransition_93 (by decide) (fun hc93 => ?_) (fun hc93 => ?_)
      · replace hw := hw.1 hc93
        exact J149 M_90 _ _ _ hw hP hS (lv_sub hl [0, 1, 2, 3, 4] rfl)
      · replace hw := hw.2 hc93
        refine lv_iload_n hx hb dX12_addTransition_96 rfl (lv_at hl 2 rfl) ?_
        refine lv_iconst (v := 0) hx hb dX12_addTransition_97 (by decide) ?_
        refine lv_iconst (v := 3) hx hb dX12_addTransition_98 (by decide) ?_
        refine rt_calli (rt_runS (n := 3) (As := [.int p2, .int 0, .int 3]) (rest := []) F hP hN hS (rt_frs hS.1) (mtX12_isIn l D cA ad hI _ p2 0 3 M_90 _ hw) kw_1182 kw_1180 kw_60 kw_1181 ⟨by decide, by decide, by decide +kernel⟩ ⟨rfl, rfl, Nat.le_of_ble_eq_true rfl, Nat.le_of_ble_eq_true rfl⟩ rfl hl.1 rfl (Nat.le_of_ble_eq_true rfl) dX12_addTransition_99 ⟨Nat.zero_le _, Nat.zero_le _⟩) hS (fun _ h => h) (fun r_99 M_99 H locs hw hP hS _ _ => ?_)
        refine lv_if_eq (tgt := 149) hx hb dX12_addTransition_102 (by decide) (fun hc102 => ?_) (fun hc102 => ?_)
        · replace hw := hw.1 hc102
          exact J149 M_99 _ _ _ hw hP hS (lv_sub hl [0, 1, 2, 3, 4] rfl)
        · replace hw := hw.2 hc102
          refine lv_iload_n hx hb dX12_addTransition_105 rfl (lv_at hl 2 rfl) ?_
          refine lv_if_ne (tgt := 119) hx hb dX12_addTransition_106 (by decide) (fun hc106 => ?_) (fun hc106 => ?_)
          · replace hw := hw.1 hc106
            exact J119 M_99 _ _ _ hw hP hS (lv_sub hl [0, 1, 2, 3, 4] rfl)
          · replace hw := hw.2 hc106
            refine lv_iload_n hx hb dX12_addTransition_109 rfl (lv_at hl 3 rfl) ?_
            refine lv_iconst (v := 0) hx hb dX12_addTransition_110 (by decide) ?_
            refine lv_bipush (v := 9) hx hb dX12_addTransition_111 (by decide) ?_
            refine rt_calli (rt_runS (n := 3) (As := [.int p3, .int 0, .int 9]) (rest := []) F hP hN hS (rt_frs hS.1) (mtX12_isIn l D cA ad hI _ p3 0 9 M_99 _ hw) kw_1182 kw_1180 kw_60 kw_1181 ⟨by decide, by decide, by decide +kernel⟩ ⟨rfl, rfl, Nat.le_of_ble_eq_true rfl, Nat.le_of_ble_eq_true rfl⟩ rfl hl.1 rfl (Nat.le_of_ble_eq_true rfl) dX12_addTransition_113 ⟨Nat.zero_le _, Nat.zero_le _⟩) hS (fun _ h => h) (fun r_113 M_113 H locs hw hP hS _ _ => ?_)
            refine lv_if_eq (tgt := 149) hx hb dX12_addTransition_116 (by decide) (fun hc116 => ?_) (fun hc116 => ?_)
            · replace hw := hw.1 hc116
              exact J149 M_113 _ _ _ hw hP hS (lv_sub hl [0, 1, 2, 3, 4] rfl)
            · replace hw := hw.2 hc116
              exact J119 M_113 _ _ _ hw hP hS (lv_sub hl [0, 1, 2, 3, 4] rfl)
    · replace hw := hw.2 hc71
      exact J74 M_68 _ _ _ hw hP hS (lv_sub hl [] rfl)
  have J66 : ∀ (M : pt_M) (H : Heap) (locs : List Loc) (ls : Array Slot), wjX12_addTransition_66 p1 p2 p3 p4 Q M → va_P D pt_cl (rt_W cA ad M) H → va_S (rt_fr ad s.heap.size) s.heap H locs → lv_has ls 6 [(0, .ref (ad 0)), (1, .int p1), (2, .int p2), (3, .int p3), (4, .int p4)] → W p l e (headSpec (Cond.code yX12_addTransition cX12_addTransition 6 (some .int) :: lw_all) ({ frames := 5, cells := 2, slots := 16, locals := 108 } : Room)).room s m ([.ref (ad 0), .int p1, .int p2, .int p3, .int p4] : List Value).toArray below meth c H locs 0 0 (MQ below (va_Qi Q (fun (_ : pt_M) (_ : State) => True) (rt_fr ad s.heap.size)) ([.ref (ad 0), .int p1, .int p2, .int p3, .int p4] : List Value).toArray s 2 16 (rt_fr ad s.heap.size)) (F0 m 66 ls [.ref (ad 0)]) := by
    intro M H locs ls hw hP hS hl
    unfold wjX12_addTransition_66 at hw
    refine lv_iconst (v := 0) hx hb dX12_addTransition_66 (by decide) ?_
    exact J67 0 M _ _ _ hw hP hS (lv_sub hl [0, 1, 2, 3, 4] rfl)
  have J62 : ∀ (M : pt_M) (H : Heap) (locs : List Loc) (ls : Array Slot), wjX12_addTransition_62 p1 p2 p3 p4 Q M → va_P D pt_cl (rt_W cA ad M) H → va_S (rt_fr ad s.heap.size) s.heap H locs → lv_has ls 6 [(0, .ref (ad 0)), (1, .int p1), (2, .int p2), (3, .int p3), (4, .int p4)] → W p l e (headSpec (Cond.code yX12_addTransition cX12_addTransition 6 (some .int) :: lw_all) ({ frames := 5, cells := 2, slots := 16, locals := 108 } : Room)).room s m ([.ref (ad 0), .int p1, .int p2, .int p3, .int p4] : List Value).toArray below meth c H locs 0 0 (MQ below (va_Qi Q (fun (_ : pt_M) (_ : State) => True) (rt_fr ad s.heap.size)) ([.ref (ad 0), .int p1, .int p2, .int p3, .int p4] : List Value).toArray s 2 16 (rt_fr ad s.heap.size)) (F0 m 62 ls [.ref (ad 0)]) := by
    intro M H locs ls hw hP hS hl
    unfold wjX12_addTransition_62 at hw
    refine lv_iconst (v := 1) hx hb dX12_addTransition_62 (by decide) ?_
    refine lv_goto (tgt := 67) hx hb dX12_addTransition_63 (by decide) ?_
    exact J67 1 M _ _ _ hw hP hS (lv_sub hl [0, 1, 2, 3, 4] rfl)
  have J31 : ∀ (xs1 : Int32) (M : pt_M) (H : Heap) (locs : List Loc) (ls : Array Slot), wjX12_addTransition_31 p1 p2 p3 p4 Q xs1 M → va_P D pt_cl (rt_W cA ad M) H → va_S (rt_fr ad s.heap.size) s.heap H locs → lv_has ls 6 [(0, .ref (ad 0)), (1, .int p1), (2, .int p2), (3, .int p3), (4, .int p4)] → W p l e (headSpec (Cond.code yX12_addTransition cX12_addTransition 6 (some .int) :: lw_all) ({ frames := 5, cells := 2, slots := 16, locals := 108 } : Room)).room s m ([.ref (ad 0), .int p1, .int p2, .int p3, .int p4] : List Value).toArray below meth c H locs 0 0 (MQ below (va_Qi Q (fun (_ : pt_M) (_ : State) => True) (rt_fr ad s.heap.size)) ([.ref (ad 0), .int p1, .int p2, .int p3, .int p4] : List Value).toArray s 2 16 (rt_fr ad s.heap.size)) (F0 m 31 ls [.int xs1, .ref (ad 0)]) := by
    intro xs1 M H locs ls hw hP hS hl
    unfold wjX12_addTransition_31 at hw
    refine lv_iconst (v := 1) hx hb dX12_addTransition_31 (by decide) ?_
    refine rt_calli (rt_runV (n := 2) (As := [.int xs1, .int 1]) (rest := []) F hP hN hS (rt_frs hS.1) (rt_c12 _ rt_k0) (rt_l12 rt_k0) rfl (mtX12_start l D cA ad hI _ xs1 1 M _ hw) kw_1171 kw_1168 kw_60 kw_1170 kw_28 ⟨by decide, by decide, by decide +kernel⟩ ⟨rfl, rfl, Nat.le_of_ble_eq_true rfl, Nat.le_of_ble_eq_true rfl⟩ rfl hl.1 rfl (Nat.le_of_ble_eq_true rfl) dX12_addTransition_32 ⟨Nat.zero_le _, Nat.zero_le _⟩) hS (fun _ h => h) (fun r_32 M_32 H locs hw hP hS _ _ => ?_)
    refine lv_if_ne (tgt := 74) hx hb dX12_addTransition_35 (by decide) (fun hc35 => ?_) (fun hc35 => ?_)
    · replace hw := hw.1 hc35
      exact J74 M_32 _ _ _ hw hP hS (lv_sub hl [] rfl)
    · replace hw := hw.2 hc35
      refine lv_aload_n hx hb dX12_addTransition_38 rfl (lv_at hl 0 rfl) ?_
      refine lv_aload_n hx hb dX12_addTransition_39 rfl (lv_at hl 0 rfl) ?_
      refine lv_iload_n hx hb dX12_addTransition_40 rfl (lv_at hl 1 rfl) ?_
      refine rt_calli (rt_runV (n := 1) (As := [.int p1]) (rest := [.ref (ad 0)]) F hP hN hS (rt_frs hS.1) (rt_c12 _ rt_k0) (rt_l12 rt_k0) rfl (mtX12_isNoState l D cA ad hI _ p1 M_32 _ hw) kw_1179 kw_1176 kw_60 kw_1178 kw_30 ⟨by decide, by decide, by decide +kernel⟩ ⟨rfl, rfl, Nat.le_of_ble_eq_true rfl, Nat.le_of_ble_eq_true rfl⟩ rfl hl.1 rfl (Nat.le_of_ble_eq_true rfl) dX12_addTransition_41 ⟨Nat.zero_le _, Nat.zero_le _⟩) hS (fun _ h => h) (fun r_41 M_41 H locs hw hP hS _ _ => ?_)
      refine lv_if_ne (tgt := 62) hx hb dX12_addTransition_44 (by decide) (fun hc44 => ?_) (fun hc44 => ?_)
      · replace hw := hw.1 hc44
        exact J62 M_41 _ _ _ hw hP hS (lv_sub hl [0, 1, 2, 3, 4] rfl)
      · replace hw := hw.2 hc44
        refine lv_iload hx hb dX12_addTransition_47 (lv_at hl 4 rfl) ?_
        refine lv_iconst (v := (-1)) hx hb dX12_addTransition_49 (by decide) ?_
        refine lv_icmp_eq (tgt := 66) hx hb dX12_addTransition_50 (by decide) (fun hc50 => ?_) (fun hc50 => ?_)
        · replace hw := hw.1 hc50
          exact J66 M_41 _ _ _ hw hP hS (lv_sub hl [0, 1, 2, 3, 4] rfl)
        · replace hw := hw.2 hc50
          refine lv_aload_n hx hb dX12_addTransition_53 rfl (lv_at hl 0 rfl) ?_
          refine lv_iload hx hb dX12_addTransition_54 (lv_at hl 4 rfl) ?_
          refine rt_calli (rt_runV (n := 1) (As := [.int p4]) (rest := [.ref (ad 0)]) F hP hN hS (rt_frs hS.1) (rt_c12 _ rt_k0) (rt_l12 rt_k0) rfl (mtX12_isNoState l D cA ad hI _ p4 M_41 _ hw) kw_1179 kw_1176 kw_60 kw_1178 kw_30 ⟨by decide, by decide, by decide +kernel⟩ ⟨rfl, rfl, Nat.le_of_ble_eq_true rfl, Nat.le_of_ble_eq_true rfl⟩ rfl hl.1 rfl (Nat.le_of_ble_eq_true rfl) dX12_addTransition_56 ⟨Nat.zero_le _, Nat.zero_le _⟩) hS (fun _ h => h) (fun r_56 M_56 H locs hw hP hS _ _ => ?_)
          refine lv_if_eq (tgt := 66) hx hb dX12_addTransition_59 (by decide) (fun hc59 => ?_) (fun hc59 => ?_)
          · replace hw := hw.1 hc59
            exact J66 M_56 _ _ _ hw hP hS (lv_sub hl [0, 1, 2, 3, 4] rfl)
          · replace hw := hw.2 hc59
            exact J62 M_56 _ _ _ hw hP hS (lv_sub hl [0, 1, 2, 3, 4] rfl)
  have J26 : ∀ (M : pt_M) (H : Heap) (locs : List Loc) (ls : Array Slot), wjX12_addTransition_26 p1 p2 p3 p4 Q M → va_P D pt_cl (rt_W cA ad M) H → va_S (rt_fr ad s.heap.size) s.heap H locs → lv_has ls 6 [(0, .ref (ad 0)), (1, .int p1), (2, .int p2), (3, .int p3), (4, .int p4)] → W p l e (headSpec (Cond.code yX12_addTransition cX12_addTransition 6 (some .int) :: lw_all) ({ frames := 5, cells := 2, slots := 16, locals := 108 } : Room)).room s m ([.ref (ad 0), .int p1, .int p2, .int p3, .int p4] : List Value).toArray below meth c H locs 0 0 (MQ below (va_Qi Q (fun (_ : pt_M) (_ : State) => True) (rt_fr ad s.heap.size)) ([.ref (ad 0), .int p1, .int p2, .int p3, .int p4] : List Value).toArray s 2 16 (rt_fr ad s.heap.size)) (F0 m 26 ls [.ref (ad 0)]) := by
    intro M H locs ls hw hP hS hl
    unfold wjX12_addTransition_26 at hw
    refine lv_iconst (v := 1) hx hb dX12_addTransition_26 (by decide) ?_
    refine lv_goto (tgt := 31) hx hb dX12_addTransition_27 (by decide) ?_
    exact J31 1 M _ _ _ hw hP hS (lv_sub hl [0, 1, 2, 3, 4] rfl)
  unfold wpX12_addTransition at hw
  refine lv_aload_n hx hb dX12_addTransition_0 rfl (lv_at hl 0 rfl) ?_
  refine lv_aload_n hx hb dX12_addTransition_1 rfl (lv_at hl 0 rfl) ?_
  refine rt_get F hP (rt_c12 _ rt_k0) (rt_l12 rt_k0) inX12 rfl 2 (by decide) kw_1142 rfl rfl dX12_addTransition_2 ?_
  refine rt_get F hP (rt_c9 _ rt_k6) (rt_l9 rt_k6) inX9 rfl 0 (by decide) kw_1004 rfl rfl dX12_addTransition_5 ?_
  refine lv_if_ne (tgt := 26) hx hb dX12_addTransition_8 (by decide) (fun hc8 => ?_) (fun hc8 => ?_)
  · replace hw := hw.1 hc8
    exact J26 M _ _ _ hw hP hS (lv_sub hl [0, 1, 2, 3, 4] rfl)
  · replace hw := hw.2 hc8
    refine lv_aload_n hx hb dX12_addTransition_11 rfl (lv_at hl 0 rfl) ?_
    refine rt_get F hP (rt_c12 _ rt_k0) (rt_l12 rt_k0) inX12 rfl 1 (by decide) kw_1140 rfl rfl dX12_addTransition_12 ?_
    refine rt_get F hP (rt_c8 _ rt_k1) (rt_l8 rt_k1) inX8 rfl 1 (by decide) kw_988 rfl rfl dX12_addTransition_15 ?_
    refine rt_calli (rt_runV (n := 0) (As := []) (rest := [.ref (ad 0)]) F hP hN hS (rt_frs hS.1) (rt_c13 _ rt_k5) (rt_l13 rt_k5) rfl (mtJx4a65c_size_8abf5 l D cA ad hI _ 5 rt_k5 M _ hw) kw_1167 kw_1164 kw_64 kw_1165 kw_1166 ⟨by decide, by decide, by decide +kernel⟩ ⟨rfl, rfl, Nat.le_of_ble_eq_true rfl, Nat.le_of_ble_eq_true rfl⟩ rfl hl.1 rfl (Nat.le_of_ble_eq_true rfl) dX12_addTransition_18 ⟨Nat.zero_le _, Nat.zero_le _⟩) hS (fun _ h => h) (fun r_18 M_18 H locs hw hP hS _ _ => ?_)
    refine lv_bipush (v := 30) hx hb dX12_addTransition_21 (by decide) ?_
    refine lv_icmp_ne (tgt := 30) hx hb dX12_addTransition_23 (by decide) (fun hc23 => ?_) (fun hc23 => ?_)
    · replace hw := hw.1 hc23
      refine lv_iconst (v := 0) hx hb dX12_addTransition_30 (by decide) ?_
      exact J31 0 M_18 _ _ _ hw hP hS (lv_sub hl [0, 1, 2, 3, 4] rfl)
    · replace hw := hw.2 hc23
      exact J26 M_18 _ _ _ hw hP hS (lv_sub hl [0, 1, 2, 3, 4] rfl)
end
section
-- ===== X9_taken
def wjX9_taken_282 (p1 : Int32) (p2 : Int32) (Q : pt_M → Prop) (R17 : Nat → Int32 → pt_M → Prop) (q3 : Nat) (x5 : Int32) (M : pt_M) : Prop :=
  ∀ x5_282 : Int32, x5_282 = x5 + 1 → R17 q3 x5_282 M
def lbX9_taken_17 (p1 : Int32) (p2 : Int32) (Q : pt_M → Prop)  (R17 : Nat → Int32 → pt_M → Prop) (q3 : Nat) (x5 : Int32) (M : pt_M) : Prop :=
  wpJx4a65c_size_8abf5 2 M (fun (r_29 : Int32) (M_29 : pt_M) => (r_29 ≤ x5 → Q M_29) ∧ (¬ r_29 ≤ x5 → wpX12_has (M_29 6 1) x5 M_29 (fun (r_41 : Int32) (M_41 : pt_M) => (r_41 = 0 → wjX9_taken_282 p1 p2 Q R17 q3 x5 M_41) ∧ (¬ r_41 = 0 → wpX8_isLeaf x5 M_41 (fun (r_56 : Int32) (M_56 : pt_M) => (¬ r_56 = 0 → wpX9_chosen x5 p1 p2 M_56 (fun (r_70 : Int32) (M_70 : pt_M) => (r_70 = (-1) → wjX9_taken_282 p1 p2 Q R17 q3 x5 M_70) ∧ (¬ r_70 = (-1) → False))) ∧ (r_56 = 0 → wjX9_taken_282 p1 p2 Q R17 q3 x5 M_56))))))
def lpX9_taken_17 (p1 : Int32) (p2 : Int32) (Q : pt_M → Prop)  : Nat → Nat → Int32 → pt_M → Prop
  | 0 => fun _ _ _ => False
  | n + 1 => fun q3 x5 M => lbX9_taken_17 p1 p2 Q (lpX9_taken_17 p1 p2 Q n) q3 x5 M
def wpX9_taken (p1 : Int32) (p2 : Int32) (M : pt_M) (Q : pt_M → Prop) : Prop :=
  ∃ n : Nat, lpX9_taken_17 p1 p2 Q n q0 0 M
set_option maxHeartbeats 4000000 in
set_option maxRecDepth 100000 in
theorem mtX9_taken (l : Launch) (D : va_G) (cA : Nat → ClassId) (ad : Nat → Nat) (hI : rt_I ad) (sz : Nat) (p1 : Int32) (p2 : Int32) (M : pt_M) (Q : pt_M → Prop) (hw : wpX9_taken p1 p2 M Q) : Met l yX9_taken (Cond.code yX9_taken cX9_taken 9 (some (.object "java/util/ArrayList")) :: lw_all) ({ frames := 6, cells := 2, slots := 33, locals := 129 } : Room) (va_Pc [.ref (ad 6), .int p1, .int p2] (rt_P D cA ad sz M)) (va_Qr Q (fun M q t => rt_L D cA ad sz q M t.heap) (rt_fr ad sz)) 2 33 (rt_fr ad sz) := by
  refine Met.ofW (cc := cX9_taken) (maxL := 9) (ret := (some (.object "java/util/ArrayList"))) (by decide) rfl ?_
  intro p e s m args below meth c s₁ B hml hv
  obtain ⟨rfl, hsz, hP, hK, hN⟩ := hv
  have hx := B.exec
  have hb := B.bytes
  have hr := B.returns
  have hts0 := atoms_spec (ws := (Cond.code yX9_taken cX9_taken 9 (some (.object "java/util/ArrayList")) :: lw_all)) B.pre
  have hown : s.vm.findClass RX9 = some m.cls := findClass_of_methodNamed B.named
  have hlocks := B.notSynchronized
  subst hsz
  have F : pt_F p m c cX9_taken 9 s _ RX9 D cA := ⟨⟨hx, hb, hml, hown, fun w h => hts0 w (List.mem_cons_of_mem _ h)⟩, hK⟩
  have hD : ∀ M, va_D (rt_fr ad s.heap.size) (rt_W cA ad M) := rt_D hI (fun k h => Or.inl ⟨k, h, rfl⟩)
  have hS : va_S (rt_fr ad s.heap.size) s.heap s.heap [] := va_S.rf
  have hl := lv_entry ([.ref (ad 6), .int p1, .int p2]) (n := 9) (Nat.le_of_ble_eq_true rfl)
  rw [lg_entry_eq]
  generalize (lg_sl ([.ref (ad 6), .int p1, .int p2]) ++ List.replicate (9 - (lg_sl ([.ref (ad 6), .int p1, .int p2])).length) Slot.unset).toArray = ls at hl ⊢
  have hl : lv_has ls 9 [(0, .ref (ad 6)), (1, .int p1), (2, .int p2)] := hl
  have L17 : ∀ (n17 : Nat) (q3 : Nat) (x5 : Int32) (M : pt_M) (H : Heap) (locs : List Loc) (ls : Array Slot), lpX9_taken_17 p1 p2 Q n17 q3 x5 M → rt_L D cA ad s.heap.size q3 M H → va_S (rt_fr ad s.heap.size) s.heap H locs → lv_has ls 9 [(0, .ref (ad 6)), (1, .int p1), (2, .int p2), (3, .ref q3), (5, .int x5)] → W p l e (headSpec (Cond.code yX9_taken cX9_taken 9 (some (.object "java/util/ArrayList")) :: lw_all) ({ frames := 6, cells := 2, slots := 33, locals := 129 } : Room)).room s m ([.ref (ad 6), .int p1, .int p2] : List Value).toArray below meth c H locs 2 33 (MQ below (va_Qr Q (fun M q t => rt_L D cA ad s.heap.size q M t.heap) (rt_fr ad s.heap.size)) ([.ref (ad 6), .int p1, .int p2] : List Value).toArray s 2 33 (rt_fr ad s.heap.size)) (F0 m 17 ls []) := by
    intro n17
    induction n17 with
    | zero => intro q3 x5 M H locs ls hw; exact hw.elim
    | succ n17 ih17 =>
      have J282 : ∀ (q3 : Nat) (x5 : Int32) (M : pt_M) (H : Heap) (locs : List Loc) (ls : Array Slot), wjX9_taken_282 p1 p2 Q (lpX9_taken_17 p1 p2 Q n17) q3 x5 M → rt_L D cA ad s.heap.size q3 M H → va_S (rt_fr ad s.heap.size) s.heap H locs → lv_has ls 9 [(0, .ref (ad 6)), (1, .int p1), (2, .int p2), (3, .ref q3), (5, .int x5)] → W p l e (headSpec (Cond.code yX9_taken cX9_taken 9 (some (.object "java/util/ArrayList")) :: lw_all) ({ frames := 6, cells := 2, slots := 33, locals := 129 } : Room)).room s m ([.ref (ad 6), .int p1, .int p2] : List Value).toArray below meth c H locs 2 33 (MQ below (va_Qr Q (fun M q t => rt_L D cA ad s.heap.size q M t.heap) (rt_fr ad s.heap.size)) ([.ref (ad 6), .int p1, .int p2] : List Value).toArray s 2 33 (rt_fr ad s.heap.size)) (F0 m 282 ls []) := by
        intro q3 x5 M H locs ls hw hP hS hl
        unfold wjX9_taken_282 at hw
        obtain ⟨x5_282, ex5_282⟩ : ∃ y : Int32, y = x5 + 1 := ⟨_, rfl⟩
        replace hw := hw x5_282 ex5_282
        refine lv_iinc (v := x5_282) (lv' := [(5, .int x5_282), (0, .ref (ad 6)), (1, .int p1), (2, .int p2), (3, .ref q3)]) hx hb dX9_taken_282 hl (k := 4) rfl (by rw [ex5_282]; rfl) (by decide) rfl (fun ls hl => ?_)
        refine lv_goto (tgt := 17) hx hb dX9_taken_285 (by decide) ?_
        exact ih17 q3 x5_282 M _ _ _ hw hP hS (lv_sub hl [1, 2, 3, 4, 0] rfl)
      intro q3 x5 M H locs ls hw hP hS hl
      replace hw : lbX9_taken_17 p1 p2 Q (lpX9_taken_17 p1 p2 Q n17) q3 x5 M := hw
      unfold lbX9_taken_17 at hw
      refine lv_iload hx hb dX9_taken_17 (lv_at hl 4 rfl) ?_
      refine lv_aload_n hx hb dX9_taken_19 rfl (lv_at hl 0 rfl) ?_
      refine rt_get F hP.1 (rt_c9 _ rt_k6) (rt_l9 rt_k6) inX9 rfl 10 (by decide) kw_1022 rfl rfl dX9_taken_20 ?_
      refine rt_getN F hP.1 (rt_c12 _ rt_k0) (rt_l12 rt_k0) inX12 rfl 1 (by decide) kw_1141 rfl rfl dX9_taken_23 ?_
      refine rt_get F hP.1 (rt_c8 _ rt_k1) (rt_l8 rt_k1) inX8 rfl 0 (by decide) kw_986 rfl rfl dX9_taken_26 ?_
      refine rt_calliL hP (rt_runV (n := 0) (As := []) (rest := [.int x5]) F hP.1 hN hS (rt_frs hS.1) (rt_c13 _ rt_k2) (rt_l13 rt_k2) rfl (mtJx4a65c_size_8abf5 l D cA ad hI _ 2 rt_k2 M _ hw) kw_1167 kw_1320 kw_64 kw_1165 kw_1166 ⟨by decide, by decide, by decide +kernel⟩ ⟨rfl, rfl, Nat.le_of_ble_eq_true rfl, Nat.le_of_ble_eq_true rfl⟩ rfl hl.1 rfl (Nat.le_of_ble_eq_true rfl) dX9_taken_29 ⟨Nat.zero_le _, Nat.zero_le _⟩) hS (fun _ h => h) (fun r_29 M_29 H locs hw hP hS _ _ => ?_)
      refine lv_icmp_ge (tgt := 288) hx hb dX9_taken_32 (by decide) (fun hc32 => ?_) (fun hc32 => ?_)
      · replace hw := hw.1 hc32
        refine lv_aload_n hx hb dX9_taken_288 rfl (lv_at hl 3 rfl) ?_
        exact W.aret (v := .ref q3) hx hb hr (Or.inl ⟨_, rfl⟩) (Or.inr ⟨_, rfl⟩) (fun t ht hW => ⟨⟨M_29, q3, rfl, hw, by rw [ht]; exact hP⟩, hS.F ht⟩) hS.2.2 dX9_taken_289
      · replace hw := hw.2 hc32
        refine lv_aload_n hx hb dX9_taken_35 rfl (lv_at hl 0 rfl) ?_
        refine rt_get F hP.1 (rt_c9 _ rt_k6) (rt_l9 rt_k6) inX9 rfl 1 (by decide) kw_1005 rfl rfl dX9_taken_36 ?_
        refine lv_iload hx hb dX9_taken_39 (lv_at hl 4 rfl) ?_
        refine rt_calliL hP (rt_runSN (n := 2) (As := [.int (M_29 6 1), .int x5]) (rest := []) F hP.1 hN hS (rt_frs hS.1) (mtX12_has l D cA ad hI _ (M_29 6 1) x5 M_29 _ hw) kw_1226 kw_1321 kw_60 kw_1225 ⟨by decide, by decide, by decide +kernel⟩ ⟨rfl, rfl, Nat.le_of_ble_eq_true rfl, Nat.le_of_ble_eq_true rfl⟩ rfl hl.1 rfl (Nat.le_of_ble_eq_true rfl) dX9_taken_41 ⟨Nat.zero_le _, Nat.zero_le _⟩) hS (fun _ h => h) (fun r_41 M_41 H locs hw hP hS _ _ => ?_)
        refine lv_if_eq (tgt := 282) hx hb dX9_taken_44 (by decide) (fun hc44 => ?_) (fun hc44 => ?_)
        · replace hw := hw.1 hc44
          exact J282 q3 x5 M_41 _ _ _ hw hP hS (lv_sub hl [0, 1, 2, 3, 4] rfl)
        · replace hw := hw.2 hc44
          refine lv_aload_n hx hb dX9_taken_47 rfl (lv_at hl 0 rfl) ?_
          refine rt_get F hP.1 (rt_c9 _ rt_k6) (rt_l9 rt_k6) inX9 rfl 10 (by decide) kw_1022 rfl rfl dX9_taken_48 ?_
          refine rt_getN F hP.1 (rt_c12 _ rt_k0) (rt_l12 rt_k0) inX12 rfl 1 (by decide) kw_1141 rfl rfl dX9_taken_51 ?_
          refine lv_iload hx hb dX9_taken_54 (lv_at hl 4 rfl) ?_
          refine rt_calliL hP (rt_runV (n := 1) (As := [.int x5]) (rest := []) F hP.1 hN hS (rt_frs hS.1) (rt_c8 _ rt_k1) (rt_l8 rt_k1) rfl (mtX8_isLeaf l D cA ad hI _ x5 M_41 _ hw) kw_1372 kw_1369 kw_61 kw_1370 kw_1371 ⟨by decide, by decide, by decide +kernel⟩ ⟨rfl, rfl, Nat.le_of_ble_eq_true rfl, Nat.le_of_ble_eq_true rfl⟩ rfl hl.1 rfl (Nat.le_of_ble_eq_true rfl) dX9_taken_56 ⟨Nat.zero_le _, Nat.zero_le _⟩) hS (fun _ h => h) (fun r_56 M_56 H locs hw hP hS _ _ => ?_)
          refine lv_if_ne (tgt := 65) hx hb dX9_taken_59 (by decide) (fun hc59 => ?_) (fun hc59 => ?_)
          · replace hw := hw.1 hc59
            refine lv_aload_n hx hb dX9_taken_65 rfl (lv_at hl 0 rfl) ?_
            refine lv_iload hx hb dX9_taken_66 (lv_at hl 4 rfl) ?_
            refine lv_iload_n hx hb dX9_taken_68 rfl (lv_at hl 1 rfl) ?_
            refine lv_iload_n hx hb dX9_taken_69 rfl (lv_at hl 2 rfl) ?_
            refine rt_calliL hP (rt_runV (n := 3) (As := [.int x5, .int p1, .int p2]) (rest := []) F hP.1 hN hS (rt_frs hS.1) (rt_c9 _ rt_k6) (rt_l9 rt_k6) rfl (mtX9_chosen l D cA ad hI _ x5 p1 p2 M_56 _ hw) kw_1376 kw_1373 kw_65 kw_1375 kw_37 ⟨by decide, by decide, by decide +kernel⟩ ⟨rfl, rfl, Nat.le_of_ble_eq_true rfl, Nat.le_of_ble_eq_true rfl⟩ rfl hl.1 rfl (Nat.le_of_ble_eq_true rfl) dX9_taken_70 ⟨Nat.zero_le _, Nat.zero_le _⟩) hS (fun _ h => h) (fun r_70 M_70 H locs hw hP hS _ _ => ?_)
            refine lv_istore (lv' := [(6, .int r_70), (0, .ref (ad 6)), (1, .int p1), (2, .int p2), (3, .ref q3), (5, .int x5)]) hx hb dX9_taken_73 hl (by decide) rfl (fun ls hl => ?_)
            refine lv_iload hx hb dX9_taken_75 (lv_at hl 0 rfl) ?_
            refine lv_iconst (v := (-1)) hx hb dX9_taken_77 (by decide) ?_
            refine lv_icmp_eq (tgt := 282) hx hb dX9_taken_78 (by decide) (fun hc78 => ?_) (fun hc78 => ?_)
            · replace hw := hw.1 hc78
              exact J282 q3 x5 M_70 _ _ _ hw hP hS (lv_sub hl [1, 2, 3, 4, 5] rfl)
            · replace hw := hw.2 hc78
              exact hw.elim
          · replace hw := hw.2 hc59
            refine lv_goto (tgt := 282) hx hb dX9_taken_62 (by decide) ?_
            exact J282 q3 x5 M_56 _ _ _ hw hP hS (lv_sub hl [0, 1, 2, 3, 4] rfl)
  unfold wpX9_taken at hw
  replace hP : va_P D pt_cl (([] : va_W) ++ [((ad 0), .inr (12, [.int (M 0 0), .ref (ad 1), .ref (ad 6), .ref (ad 12), .int (M 0 4)])), ((ad 1), .inr (8, [.ref (ad 2), .ref (ad 5)])), ((ad 2), .inr (13, [.int (M 2 0), .ref (ad 3), .int (M 2 2)])), ((ad 3), .inl (cA 4, 10, .inr (.inr (.inr (.inr (fun i => if i = 0 then some (ad 4) else none)))))), ((ad 4), .inr (10, [.int (M 4 0), .int (M 4 1), .int (M 4 2), .ref (ad 13), .ref (ad 13)])), ((ad 5), .inr (13, [.int (M 5 0), .ref (ad 14), .int (M 5 2)])), ((ad 6), .inr (9, [.int (M 6 0), .int (M 6 1), .ref (ad 7), .ref (ad 8), .ref (ad 9), .ref (ad 10), .ref (ad 11), .int (M 6 7), .int (M 6 8), .int (M 6 9), .ref (ad 0)])), ((ad 7), .inl (cA 0, 20, .inl (M 7))), ((ad 8), .inl (cA 0, 20, .inl (M 8))), ((ad 9), .inl (cA 0, 4, .inl (M 9))), ((ad 10), .inl (cA 0, 30, .inl (M 10))), ((ad 11), .inr (13, [.int (M 11 0), .ref (ad 14), .int (M 11 2)])), ((ad 12), .inl (cA 0, 0, .inl (M 12)))]) s.heap := hP
  replace hD : va_D (rt_fr ad s.heap.size) (([] : va_W) ++ [((ad 0), .inr (12, [.int (M 0 0), .ref (ad 1), .ref (ad 6), .ref (ad 12), .int (M 0 4)])), ((ad 1), .inr (8, [.ref (ad 2), .ref (ad 5)])), ((ad 2), .inr (13, [.int (M 2 0), .ref (ad 3), .int (M 2 2)])), ((ad 3), .inl (cA 4, 10, .inr (.inr (.inr (.inr (fun i => if i = 0 then some (ad 4) else none)))))), ((ad 4), .inr (10, [.int (M 4 0), .int (M 4 1), .int (M 4 2), .ref (ad 13), .ref (ad 13)])), ((ad 5), .inr (13, [.int (M 5 0), .ref (ad 14), .int (M 5 2)])), ((ad 6), .inr (9, [.int (M 6 0), .int (M 6 1), .ref (ad 7), .ref (ad 8), .ref (ad 9), .ref (ad 10), .ref (ad 11), .int (M 6 7), .int (M 6 8), .int (M 6 9), .ref (ad 0)])), ((ad 7), .inl (cA 0, 20, .inl (M 7))), ((ad 8), .inl (cA 0, 20, .inl (M 8))), ((ad 9), .inl (cA 0, 4, .inl (M 9))), ((ad 10), .inl (cA 0, 30, .inl (M 10))), ((ad 11), .inr (13, [.int (M 11 0), .ref (ad 14), .int (M 11 2)])), ((ad 12), .inl (cA 0, 0, .inl (M 12)))]) := hD M
  have hA : ∀ q, s.heap.size ≤ q → rt_fr ad s.heap.size q := fun q h => Or.inr h
  have s_cb : 2 ≤ (headSpec (Cond.code yX9_taken cX9_taken 9 (some (.object "java/util/ArrayList")) :: lw_all) ({ frames := 6, cells := 2, slots := 33, locals := 129 } : Room)).room.cells := (Nat.le_of_ble_eq_true rfl)
  have s_sb : 33 ≤ (headSpec (Cond.code yX9_taken cX9_taken 9 (some (.object "java/util/ArrayList")) :: lw_all) ({ frames := 6, cells := 2, slots := 33, locals := 129 } : Room)).room.slots := (Nat.le_of_ble_eq_true rfl)
  refine pt_ynew (ci := 13) (fs := [.int 0, .null, .int 0]) F hP.1 hD hS hA inX13 tyJx4a65c tyJx4a65c_ok kw_1001 kw_959 kw_64 rfl (fun j hj => by rcases (show j = 0 ∨ j = 1 ∨ j = 2 by omega) with rfl | rfl | rfl <;> rfl) (Nat.le_trans (Nat.le_of_ble_eq_true rfl) s_cb) (Nat.le_trans (Nat.le_of_ble_eq_true rfl) s_sb) dX9_taken_0 (fun q0 H hP hD hS => ?_)
  replace hP : va_P D pt_cl (([] : va_W) ++ [((ad 0), .inr (12, [.int (M 0 0), .ref (ad 1), .ref (ad 6), .ref (ad 12), .int (M 0 4)])), ((ad 1), .inr (8, [.ref (ad 2), .ref (ad 5)])), ((ad 2), .inr (13, [.int (M 2 0), .ref (ad 3), .int (M 2 2)])), ((ad 3), .inl (cA 4, 10, .inr (.inr (.inr (.inr (fun i => if i = 0 then some (ad 4) else none)))))), ((ad 4), .inr (10, [.int (M 4 0), .int (M 4 1), .int (M 4 2), .ref (ad 13), .ref (ad 13)])), ((ad 5), .inr (13, [.int (M 5 0), .ref (ad 14), .int (M 5 2)])), ((ad 6), .inr (9, [.int (M 6 0), .int (M 6 1), .ref (ad 7), .ref (ad 8), .ref (ad 9), .ref (ad 10), .ref (ad 11), .int (M 6 7), .int (M 6 8), .int (M 6 9), .ref (ad 0)])), ((ad 7), .inl (cA 0, 20, .inl (M 7))), ((ad 8), .inl (cA 0, 20, .inl (M 8))), ((ad 9), .inl (cA 0, 4, .inl (M 9))), ((ad 10), .inl (cA 0, 30, .inl (M 10))), ((ad 11), .inr (13, [.int (M 11 0), .ref (ad 14), .int (M 11 2)])), ((ad 12), .inl (cA 0, 0, .inl (M 12))), (q0, .inr (13, [.int 0, .null, .int 0]))]) H := hP
  replace hD : va_D (rt_fr ad s.heap.size) (([] : va_W) ++ [((ad 0), .inr (12, [.int (M 0 0), .ref (ad 1), .ref (ad 6), .ref (ad 12), .int (M 0 4)])), ((ad 1), .inr (8, [.ref (ad 2), .ref (ad 5)])), ((ad 2), .inr (13, [.int (M 2 0), .ref (ad 3), .int (M 2 2)])), ((ad 3), .inl (cA 4, 10, .inr (.inr (.inr (.inr (fun i => if i = 0 then some (ad 4) else none)))))), ((ad 4), .inr (10, [.int (M 4 0), .int (M 4 1), .int (M 4 2), .ref (ad 13), .ref (ad 13)])), ((ad 5), .inr (13, [.int (M 5 0), .ref (ad 14), .int (M 5 2)])), ((ad 6), .inr (9, [.int (M 6 0), .int (M 6 1), .ref (ad 7), .ref (ad 8), .ref (ad 9), .ref (ad 10), .ref (ad 11), .int (M 6 7), .int (M 6 8), .int (M 6 9), .ref (ad 0)])), ((ad 7), .inl (cA 0, 20, .inl (M 7))), ((ad 8), .inl (cA 0, 20, .inl (M 8))), ((ad 9), .inl (cA 0, 4, .inl (M 9))), ((ad 10), .inl (cA 0, 30, .inl (M 10))), ((ad 11), .inr (13, [.int (M 11 0), .ref (ad 14), .int (M 11 2)])), ((ad 12), .inl (cA 0, 0, .inl (M 12))), (q0, .inr (13, [.int 0, .null, .int 0]))]) := hD
  refine W.widen (k := 1) (n := 3) (Nat.le_of_ble_eq_true rfl) (Nat.le_of_ble_eq_true rfl) ?_
  refine lv_dup hx hb dX9_taken_3 rfl ?_
  refine sx_callv (wc := [(q0, .inr (13, [.int 0, .null, .int 0]))]) (wr := [((ad 0), .inr (12, [.int (M 0 0), .ref (ad 1), .ref (ad 6), .ref (ad 12), .int (M 0 4)])), ((ad 1), .inr (8, [.ref (ad 2), .ref (ad 5)])), ((ad 2), .inr (13, [.int (M 2 0), .ref (ad 3), .int (M 2 2)])), ((ad 3), .inl (cA 4, 10, .inr (.inr (.inr (.inr (fun i => if i = 0 then some (ad 4) else none)))))), ((ad 4), .inr (10, [.int (M 4 0), .int (M 4 1), .int (M 4 2), .ref (ad 13), .ref (ad 13)])), ((ad 5), .inr (13, [.int (M 5 0), .ref (ad 14), .int (M 5 2)])), ((ad 6), .inr (9, [.int (M 6 0), .int (M 6 1), .ref (ad 7), .ref (ad 8), .ref (ad 9), .ref (ad 10), .ref (ad 11), .int (M 6 7), .int (M 6 8), .int (M 6 9), .ref (ad 0)])), ((ad 7), .inl (cA 0, 20, .inl (M 7))), ((ad 8), .inl (cA 0, 20, .inl (M 8))), ((ad 9), .inl (cA 0, 4, .inl (M 9))), ((ad 10), .inl (cA 0, 30, .inl (M 10))), ((ad 11), .inr (13, [.int (M 11 0), .ref (ad 14), .int (M 11 2)])), ((ad 12), .inl (cA 0, 0, .inl (M 12)))]) (pt_krun (n := 0) (As := []) (rest := [.ref q0]) F (mtLI l D cA _ (ad 13) (ad 14) q0 ) sx_blind (sx_pre (wc := [(q0, .inr (13, [.int 0, .null, .int 0]))]) F hP.1 hD hN hS hA [13] rfl rfl) kw_962 (Or.inl kw_1002) kw_64 kw_961 rfl ⟨by decide, by decide, by decide +kernel⟩ ⟨rfl, rfl, (Nat.le_of_ble_eq_true rfl), (Nat.le_of_ble_eq_true rfl)⟩ rfl hl.1 rfl (Nat.le_of_ble_eq_true rfl) dX9_taken_4 ⟨(Nat.le_trans (Nat.le_of_ble_eq_true rfl) s_cb), (Nat.le_trans (Nat.le_of_ble_eq_true rfl) s_sb)⟩) hP hD hS hA [13] [0, 1, 2, 3, 4, 5, 6, 7, 8, 9, 10, 11, 12] rfl rfl rfl (by decide) (fun _ H locs _ hP hD hS => ?_)
  replace hP : va_P D pt_cl (([] : va_W) ++ [((ad 0), .inr (12, [.int (M 0 0), .ref (ad 1), .ref (ad 6), .ref (ad 12), .int (M 0 4)])), ((ad 1), .inr (8, [.ref (ad 2), .ref (ad 5)])), ((ad 2), .inr (13, [.int (M 2 0), .ref (ad 3), .int (M 2 2)])), ((ad 3), .inl (cA 4, 10, .inr (.inr (.inr (.inr (fun i => if i = 0 then some (ad 4) else none)))))), ((ad 4), .inr (10, [.int (M 4 0), .int (M 4 1), .int (M 4 2), .ref (ad 13), .ref (ad 13)])), ((ad 5), .inr (13, [.int (M 5 0), .ref (ad 14), .int (M 5 2)])), ((ad 6), .inr (9, [.int (M 6 0), .int (M 6 1), .ref (ad 7), .ref (ad 8), .ref (ad 9), .ref (ad 10), .ref (ad 11), .int (M 6 7), .int (M 6 8), .int (M 6 9), .ref (ad 0)])), ((ad 7), .inl (cA 0, 20, .inl (M 7))), ((ad 8), .inl (cA 0, 20, .inl (M 8))), ((ad 9), .inl (cA 0, 4, .inl (M 9))), ((ad 10), .inl (cA 0, 30, .inl (M 10))), ((ad 11), .inr (13, [.int (M 11 0), .ref (ad 14), .int (M 11 2)])), ((ad 12), .inl (cA 0, 0, .inl (M 12))), (q0, .inr (13, [.int 0, .ref (ad 14), .int 0]))]) H := hP
  replace hD : va_D (rt_fr ad s.heap.size) (([] : va_W) ++ [((ad 0), .inr (12, [.int (M 0 0), .ref (ad 1), .ref (ad 6), .ref (ad 12), .int (M 0 4)])), ((ad 1), .inr (8, [.ref (ad 2), .ref (ad 5)])), ((ad 2), .inr (13, [.int (M 2 0), .ref (ad 3), .int (M 2 2)])), ((ad 3), .inl (cA 4, 10, .inr (.inr (.inr (.inr (fun i => if i = 0 then some (ad 4) else none)))))), ((ad 4), .inr (10, [.int (M 4 0), .int (M 4 1), .int (M 4 2), .ref (ad 13), .ref (ad 13)])), ((ad 5), .inr (13, [.int (M 5 0), .ref (ad 14), .int (M 5 2)])), ((ad 6), .inr (9, [.int (M 6 0), .int (M 6 1), .ref (ad 7), .ref (ad 8), .ref (ad 9), .ref (ad 10), .ref (ad 11), .int (M 6 7), .int (M 6 8), .int (M 6 9), .ref (ad 0)])), ((ad 7), .inl (cA 0, 20, .inl (M 7))), ((ad 8), .inl (cA 0, 20, .inl (M 8))), ((ad 9), .inl (cA 0, 4, .inl (M 9))), ((ad 10), .inl (cA 0, 30, .inl (M 10))), ((ad 11), .inr (13, [.int (M 11 0), .ref (ad 14), .int (M 11 2)])), ((ad 12), .inl (cA 0, 0, .inl (M 12))), (q0, .inr (13, [.int 0, .ref (ad 14), .int 0]))]) := hD
  refine W.widen (k := 1) (n := 3) (Nat.le_of_ble_eq_true rfl) (Nat.le_of_ble_eq_true rfl) ?_
  refine lv_astore_n (lv' := [(3, .ref q0), (0, .ref (ad 6)), (1, .int p1), (2, .int p2)]) hx hb dX9_taken_7 rfl hl (by decide) rfl (fun ls hl => ?_)
  refine lv_bipush (v := 30) hx hb dX9_taken_8 (by decide) ?_
  refine sx_znew (N := 30) F hP.1 hD hS hA kw_1440 (by decide) (by decide) (by decide) (Nat.le_trans (Nat.le_of_ble_eq_true rfl) s_cb) (Nat.le_trans (Nat.le_of_ble_eq_true rfl) s_sb) dX9_taken_10 (fun q10 H hP hD hS => ?_)
  replace hP : va_P D pt_cl (([] : va_W) ++ [((ad 0), .inr (12, [.int (M 0 0), .ref (ad 1), .ref (ad 6), .ref (ad 12), .int (M 0 4)])), ((ad 1), .inr (8, [.ref (ad 2), .ref (ad 5)])), ((ad 2), .inr (13, [.int (M 2 0), .ref (ad 3), .int (M 2 2)])), ((ad 3), .inl (cA 4, 10, .inr (.inr (.inr (.inr (fun i => if i = 0 then some (ad 4) else none)))))), ((ad 4), .inr (10, [.int (M 4 0), .int (M 4 1), .int (M 4 2), .ref (ad 13), .ref (ad 13)])), ((ad 5), .inr (13, [.int (M 5 0), .ref (ad 14), .int (M 5 2)])), ((ad 6), .inr (9, [.int (M 6 0), .int (M 6 1), .ref (ad 7), .ref (ad 8), .ref (ad 9), .ref (ad 10), .ref (ad 11), .int (M 6 7), .int (M 6 8), .int (M 6 9), .ref (ad 0)])), ((ad 7), .inl (cA 0, 20, .inl (M 7))), ((ad 8), .inl (cA 0, 20, .inl (M 8))), ((ad 9), .inl (cA 0, 4, .inl (M 9))), ((ad 10), .inl (cA 0, 30, .inl (M 10))), ((ad 11), .inr (13, [.int (M 11 0), .ref (ad 14), .int (M 11 2)])), ((ad 12), .inl (cA 0, 0, .inl (M 12))), (q0, .inr (13, [.int 0, .ref (ad 14), .int 0])), (q10, .inl (cA 5, 30, .inl (fun _ => 0)))]) H := hP
  replace hD : va_D (rt_fr ad s.heap.size) (([] : va_W) ++ [((ad 0), .inr (12, [.int (M 0 0), .ref (ad 1), .ref (ad 6), .ref (ad 12), .int (M 0 4)])), ((ad 1), .inr (8, [.ref (ad 2), .ref (ad 5)])), ((ad 2), .inr (13, [.int (M 2 0), .ref (ad 3), .int (M 2 2)])), ((ad 3), .inl (cA 4, 10, .inr (.inr (.inr (.inr (fun i => if i = 0 then some (ad 4) else none)))))), ((ad 4), .inr (10, [.int (M 4 0), .int (M 4 1), .int (M 4 2), .ref (ad 13), .ref (ad 13)])), ((ad 5), .inr (13, [.int (M 5 0), .ref (ad 14), .int (M 5 2)])), ((ad 6), .inr (9, [.int (M 6 0), .int (M 6 1), .ref (ad 7), .ref (ad 8), .ref (ad 9), .ref (ad 10), .ref (ad 11), .int (M 6 7), .int (M 6 8), .int (M 6 9), .ref (ad 0)])), ((ad 7), .inl (cA 0, 20, .inl (M 7))), ((ad 8), .inl (cA 0, 20, .inl (M 8))), ((ad 9), .inl (cA 0, 4, .inl (M 9))), ((ad 10), .inl (cA 0, 30, .inl (M 10))), ((ad 11), .inr (13, [.int (M 11 0), .ref (ad 14), .int (M 11 2)])), ((ad 12), .inl (cA 0, 0, .inl (M 12))), (q0, .inr (13, [.int 0, .ref (ad 14), .int 0])), (q10, .inl (cA 5, 30, .inl (fun _ => 0)))]) := hD
  refine W.widen (k := 2) (n := 33) (Nat.le_of_ble_eq_true rfl) (Nat.le_of_ble_eq_true rfl) ?_
  refine lv_astore (lv' := [(4, .ref q10), (3, .ref q0), (0, .ref (ad 6)), (1, .int p1), (2, .int p2)]) hx hb dX9_taken_12 hl (by decide) rfl (fun ls hl => ?_)
  replace hP : rt_L D cA ad s.heap.size q0 M H := rt_Lmk (hP.sub [0, 1, 2, 3, 4, 5, 6, 7, 8, 9, 10, 11, 12] rfl) (hP.sub [13] rfl) (hD.sub [0, 1, 2, 3, 4, 5, 6, 7, 8, 9, 10, 11, 12, 13] rfl rfl)
  replace hl := lv_sub hl [1, 2, 3, 4] rfl
  refine lv_iconst (v := 0) hx hb dX9_taken_14 (by decide) ?_
  refine lv_istore (lv' := [(5, .int 0), (3, .ref q0), (0, .ref (ad 6)), (1, .int p1), (2, .int p2)]) hx hb dX9_taken_15 hl (by decide) rfl (fun ls hl => ?_)
  obtain ⟨n_, hw⟩ := hw
  exact L17 n_ q0 0 M _ _ _ hw hP hS (lv_sub hl [2, 3, 4, 1, 0] rfl)
-- ===== X9_step
def wjX9_step_243 (p1 : Int32) (p2 : Int32) (Q : Int32 → pt_M → Prop) (R185 : Nat → Int32 → Int32 → pt_M → Prop) (q3 : Nat) (x4 : Int32) (x5 : Int32) (M : pt_M) : Prop :=
  ∀ x5_243 : Int32, x5_243 = x5 + (-1) → R185 q3 x4 x5_243 M
def lbX9_step_185 (p1 : Int32) (p2 : Int32) (Q : Int32 → pt_M → Prop)  (R185 : Nat → Int32 → Int32 → pt_M → Prop) (q3 : Nat) (x4 : Int32) (x5 : Int32) (M : pt_M) : Prop :=
  (x5 < 0 → (0 ≤ 0 → (0 ≤ 0 → wpX9_enter 0 M (fun (M_363 : pt_M) => (0 ≤ 0 → Q 0 M_363) ∧ (¬ 0 ≤ 0 → False))) ∧ (¬ 0 ≤ 0 → False)) ∧ (¬ 0 ≤ 0 → False)) ∧ (¬ x5 < 0 → wpX12_has x4 x5 M (fun (r_194 : Int32) (M_194 : pt_M) => (¬ r_194 = 0 → ∀ M_215 : pt_M, M_215 = pt_st M_194 6 1 ((M_194 6 1) &&& ((1 <<< (x5 &&& 31)) ^^^ (-1))) → wpJx4a65c_get_915e3 x5 M_215 (fun (M_231 : pt_M) => wpX9_act M_231 (fun (M_240 : pt_M) => wjX9_step_243 p1 p2 Q R185 q3 x4 x5 M_240))) ∧ (r_194 = 0 → wjX9_step_243 p1 p2 Q R185 q3 x4 x5 M_194)))
def lpX9_step_185 (p1 : Int32) (p2 : Int32) (Q : Int32 → pt_M → Prop)  : Nat → Nat → Int32 → Int32 → pt_M → Prop
  | 0 => fun _ _ _ _ => False
  | n + 1 => fun q3 x4 x5 M => lbX9_step_185 p1 p2 Q (lpX9_step_185 p1 p2 Q n) q3 x4 x5 M
def wjX9_step_162 (p1 : Int32) (p2 : Int32) (Q : Int32 → pt_M → Prop) (R52 : Nat → Int32 → Int32 → pt_M → Prop) (q3 : Nat) (x4 : Int32) (x5 : Int32) (M : pt_M) : Prop :=
  ∀ x5_162 : Int32, x5_162 = x5 + 1 → R52 q3 x4 x5_162 M
def lbX9_step_52 (p1 : Int32) (p2 : Int32) (Q : Int32 → pt_M → Prop)  (R52 : Nat → Int32 → Int32 → pt_M → Prop) (q3 : Nat) (x4 : Int32) (x5 : Int32) (M : pt_M) : Prop :=
  wpJx4a65c_size_8abf5 2 M (fun (r_64 : Int32) (M_64 : pt_M) => (r_64 ≤ x5 → wpJx4a65c_size_8abf5 2 M_64 (fun (r_178 : Int32) (M_178 : pt_M) => ∀ x5_183 : Int32, x5_183 = (r_178 - 1) → ∃ n : Nat, lpX9_step_185 p1 p2 Q n q3 x4 x5_183 M_178)) ∧ (¬ r_64 ≤ x5 → wpJx4a65c_get_915e3 x5 M_64 (fun (M_82 : pt_M) => wpX10_isMark M_82 (fun (r_92 : Int32) (M_92 : pt_M) => (r_92 = 0 → wjX9_step_162 p1 p2 Q R52 q3 x4 x5 M_92) ∧ (¬ r_92 = 0 → wpX12_has x4 (M_92 4 0) M_92 (fun (r_105 : Int32) (M_105 : pt_M) => (¬ r_105 = 0 → (¬ (M_105 4 1) = 3 → False) ∧ ((M_105 4 1) = 3 → wpX8_parts (M_105 4 0) M_105 (fun (r_145 : Int32) (M_145 : pt_M) => vp_in x5 20 ∧ ∀ M_161 : pt_M, M_161 = pt_st M_145 8 (Int32.toNatClampNeg x5) ((M_105 6 1) &&& r_145) → wjX9_step_162 p1 p2 Q R52 q3 x4 x5 M_161))) ∧ (r_105 = 0 → wjX9_step_162 p1 p2 Q R52 q3 x4 x5 M_105)))))))
def lpX9_step_52 (p1 : Int32) (p2 : Int32) (Q : Int32 → pt_M → Prop)  : Nat → Nat → Int32 → Int32 → pt_M → Prop
  | 0 => fun _ _ _ _ => False
  | n + 1 => fun q3 x4 x5 M => lbX9_step_52 p1 p2 Q (lpX9_step_52 p1 p2 Q n) q3 x4 x5 M
def wpX9_step (p1 : Int32) (p2 : Int32) (M : pt_M) (Q : Int32 → pt_M → Prop) : Prop :=
  wpX9_taken p1 p2 M (fun (M_3 : pt_M) => (0 ≤ 0 → ∃ n : Nat, lpX9_step_52 p1 p2 Q n q_3 0 0 M_3) ∧ (¬ 0 ≤ 0 → False))
set_option maxHeartbeats 4000000 in
set_option maxRecDepth 100000 in
theorem mtX9_step (l : Launch) (D : va_G) (cA : Nat → ClassId) (ad : Nat → Nat) (hI : rt_I ad) (sz : Nat) (p1 : Int32) (p2 : Int32) (M : pt_M) (Q : Int32 → pt_M → Prop) (hw : wpX9_step p1 p2 M Q) : Met l yX9_step (Cond.code yX9_step cX9_step 7 (some .int) :: lw_all) ({ frames := 7, cells := 2, slots := 33, locals := 157 } : Room) (va_Pc [.ref (ad 6), .int p1, .int p2] (rt_P D cA ad sz M)) (va_Qi Q (rt_B D cA ad) (rt_fr ad sz)) 2 33 (rt_fr ad sz) := by
  refine Met.ofW (cc := cX9_step) (maxL := 7) (ret := (some .int)) (by decide) rfl ?_
  intro p e s m args below meth c s₁ B hml hv
  obtain ⟨rfl, hsz, hP, hK, hN⟩ := hv
  have hx := B.exec
  have hb := B.bytes
  have hr := B.returns
  have hts0 := atoms_spec (ws := (Cond.code yX9_step cX9_step 7 (some .int) :: lw_all)) B.pre
  have hown : s.vm.findClass RX9 = some m.cls := findClass_of_methodNamed B.named
  have hlocks := B.notSynchronized
  subst hsz
  have F : pt_F p m c cX9_step 7 s _ RX9 D cA := ⟨⟨hx, hb, hml, hown, fun w h => hts0 w (List.mem_cons_of_mem _ h)⟩, hK⟩
  have hD : ∀ M, va_D (rt_fr ad s.heap.size) (rt_W cA ad M) := rt_D hI (fun k h => Or.inl ⟨k, h, rfl⟩)
  have hS : va_S (rt_fr ad s.heap.size) s.heap s.heap [] := va_S.rf
  have hl := lv_entry ([.ref (ad 6), .int p1, .int p2]) (n := 7) (Nat.le_of_ble_eq_true rfl)
  rw [lg_entry_eq]
  generalize (lg_sl ([.ref (ad 6), .int p1, .int p2]) ++ List.replicate (7 - (lg_sl ([.ref (ad 6), .int p1, .int p2])).length) Slot.unset).toArray = ls at hl ⊢
  have hl : lv_has ls 7 [(0, .ref (ad 6)), (1, .int p1), (2, .int p2)] := hl
  have L185 : ∀ (n185 : Nat) (q3 : Nat) (x4 : Int32) (x5 : Int32) (M : pt_M) (H : Heap) (locs : List Loc) (ls : Array Slot), lpX9_step_185 p1 p2 Q n185 q3 x4 x5 M → rt_L D cA ad s.heap.size q3 M H → va_S (rt_fr ad s.heap.size) s.heap H locs → lv_has ls 7 [(0, .ref (ad 6)), (3, .ref q3), (4, .int x4), (5, .int x5)] → W p l e (headSpec (Cond.code yX9_step cX9_step 7 (some .int) :: lw_all) ({ frames := 7, cells := 2, slots := 33, locals := 157 } : Room)).room s m ([.ref (ad 6), .int p1, .int p2] : List Value).toArray below meth c H locs 2 33 (MQ below (va_Qi Q (rt_B D cA ad) (rt_fr ad s.heap.size)) ([.ref (ad 6), .int p1, .int p2] : List Value).toArray s 2 33 (rt_fr ad s.heap.size)) (F0 m 185 ls []) := by
    intro n185
    induction n185 with
    | zero => intro q3 x4 x5 M H locs ls hw; exact hw.elim
    | succ n185 ih185 =>
      have J243 : ∀ (q3 : Nat) (x4 : Int32) (x5 : Int32) (M : pt_M) (H : Heap) (locs : List Loc) (ls : Array Slot), wjX9_step_243 p1 p2 Q (lpX9_step_185 p1 p2 Q n185) q3 x4 x5 M → rt_L D cA ad s.heap.size q3 M H → va_S (rt_fr ad s.heap.size) s.heap H locs → lv_has ls 7 [(0, .ref (ad 6)), (3, .ref q3), (4, .int x4), (5, .int x5)] → W p l e (headSpec (Cond.code yX9_step cX9_step 7 (some .int) :: lw_all) ({ frames := 7, cells := 2, slots := 33, locals := 157 } : Room)).room s m ([.ref (ad 6), .int p1, .int p2] : List Value).toArray below meth c H locs 2 33 (MQ below (va_Qi Q (rt_B D cA ad) (rt_fr ad s.heap.size)) ([.ref (ad 6), .int p1, .int p2] : List Value).toArray s 2 33 (rt_fr ad s.heap.size)) (F0 m 243 ls []) := by
        intro q3 x4 x5 M H locs ls hw hP hS hl
        unfold wjX9_step_243 at hw
        obtain ⟨x5_243, ex5_243⟩ : ∃ y : Int32, y = x5 + (-1) := ⟨_, rfl⟩
        replace hw := hw x5_243 ex5_243
        refine lv_iinc (v := x5_243) (lv' := [(5, .int x5_243), (0, .ref (ad 6)), (3, .ref q3), (4, .int x4)]) hx hb dX9_step_243 hl (k := 3) rfl (by rw [ex5_243]; rfl) (by decide) rfl (fun ls hl => ?_)
        refine lv_goto (tgt := 185) hx hb dX9_step_246 (by decide) ?_
        exact ih185 q3 x4 x5_243 M _ _ _ hw hP hS (lv_sub hl [1, 2, 3, 0] rfl)
      intro q3 x4 x5 M H locs ls hw hP hS hl
      replace hw : lbX9_step_185 p1 p2 Q (lpX9_step_185 p1 p2 Q n185) q3 x4 x5 M := hw
      unfold lbX9_step_185 at hw
      refine lv_iload hx hb dX9_step_185 (lv_at hl 3 rfl) ?_
      refine lv_if_lt (tgt := 249) hx hb dX9_step_187 (by decide) (fun hc187 => ?_) (fun hc187 => ?_)
      · replace hw := hw.1 hc187
        refine lv_iconst (v := 0) hx hb dX9_step_249 (by decide) ?_
        refine lv_istore (lv' := [(5, .int 0), (0, .ref (ad 6)), (3, .ref q3), (4, .int x4)]) hx hb dX9_step_250 hl (by decide) rfl (fun ls hl => ?_)
        refine lv_iload hx hb dX9_step_252 (lv_at hl 0 rfl) ?_
        refine lv_aload_n hx hb dX9_step_254 rfl (lv_at hl 2 rfl) ?_
        refine rt_callpL (sx_runV (n := 0) (As := []) (rest := [.int 0]) F hP.2.1 0 rfl rfl (mtSZ0 l D cA q3 0 (ad 14) 0) rt_szblind (fun U hU hW => ⟨by rw [hU]; exact hP.2.1, va_K.moved hW.alike F.2⟩) kw_1167 kw_1320 kw_64 kw_1165 kw_1166 ⟨by decide, by decide, by decide +kernel⟩ ⟨rfl, rfl, (Nat.le_of_ble_eq_true rfl), (Nat.le_of_ble_eq_true rfl)⟩ rfl hl.1 rfl (Nat.le_of_ble_eq_true rfl) dX9_step_255 ⟨(Nat.le_of_ble_eq_true rfl), (Nat.le_of_ble_eq_true rfl)⟩) hP hS (fun r_255 H locs e_255 hP hS => ?_)
        obtain rfl := e_255
        refine lv_icmp_ge (tgt := 302) hx hb dX9_step_258 (by decide) (fun hc258 => ?_) (fun hc258 => ?_)
        · replace hw := hw.1 hc258
          refine lv_iconst (v := 0) hx hb dX9_step_302 (by decide) ?_
          refine lv_istore (lv' := [(5, .int 0), (0, .ref (ad 6)), (3, .ref q3), (4, .int x4)]) hx hb dX9_step_303 hl (by decide) rfl (fun ls hl => ?_)
          refine lv_iconst (v := 0) hx hb dX9_step_305 (by decide) ?_
          refine lv_istore (lv' := [(6, .int 0), (5, .int 0), (0, .ref (ad 6)), (3, .ref q3), (4, .int x4)]) hx hb dX9_step_306 hl (by decide) rfl (fun ls hl => ?_)
          refine lv_iload hx hb dX9_step_308 (lv_at hl 0 rfl) ?_
          refine lv_aload_n hx hb dX9_step_310 rfl (lv_at hl 3 rfl) ?_
          refine rt_callpL (sx_runV (n := 0) (As := []) (rest := [.int 0]) F hP.2.1 0 rfl rfl (mtSZ0 l D cA q3 0 (ad 14) 0) rt_szblind (fun U hU hW => ⟨by rw [hU]; exact hP.2.1, va_K.moved hW.alike F.2⟩) kw_1167 kw_1320 kw_64 kw_1165 kw_1166 ⟨by decide, by decide, by decide +kernel⟩ ⟨rfl, rfl, (Nat.le_of_ble_eq_true rfl), (Nat.le_of_ble_eq_true rfl)⟩ rfl hl.1 rfl (Nat.le_of_ble_eq_true rfl) dX9_step_311 ⟨(Nat.le_of_ble_eq_true rfl), (Nat.le_of_ble_eq_true rfl)⟩) hP hS (fun r_311 H locs e_311 hP hS => ?_)
          obtain rfl := e_311
          refine lv_icmp_ge (tgt := 360) hx hb dX9_step_314 (by decide) (fun hc314 => ?_) (fun hc314 => ?_)
          · replace hw := hw.1 hc314
            refine lv_aload_n hx hb dX9_step_360 rfl (lv_at hl 2 rfl) ?_
            refine lv_iload hx hb dX9_step_361 (lv_at hl 1 rfl) ?_
            refine rt_callvL hP (rt_runV (n := 1) (As := [.int 0]) (rest := []) F hP.1 hN hS (rt_frs hS.1) (rt_c9 _ rt_k6) (rt_l9 rt_k6) rfl (mtX9_enter l D cA ad hI _ 0 M _ hw) kw_1319 kw_1316 kw_65 kw_1318 kw_32 ⟨by decide, by decide, by decide +kernel⟩ ⟨rfl, rfl, Nat.le_of_ble_eq_true rfl, Nat.le_of_ble_eq_true rfl⟩ rfl hl.1 rfl (Nat.le_of_ble_eq_true rfl) dX9_step_363 ⟨Nat.zero_le _, Nat.zero_le _⟩) hS (fun _ h => h) (fun M_363 H locs hw hP hS _ _ => ?_)
            refine lv_iconst (v := 0) hx hb dX9_step_366 (by decide) ?_
            refine lv_istore (lv' := [(6, .int 0), (5, .int 0), (0, .ref (ad 6)), (3, .ref q3), (4, .int x4)]) hx hb dX9_step_367 hl (by decide) rfl (fun ls hl => ?_)
            refine lv_iload hx hb dX9_step_369 (lv_at hl 0 rfl) ?_
            refine lv_aload_n hx hb dX9_step_371 rfl (lv_at hl 3 rfl) ?_
            refine rt_callpL (sx_runV (n := 0) (As := []) (rest := [.int 0]) F hP.2.1 0 rfl rfl (mtSZ0 l D cA q3 0 (ad 14) 0) rt_szblind (fun U hU hW => ⟨by rw [hU]; exact hP.2.1, va_K.moved hW.alike F.2⟩) kw_1167 kw_1320 kw_64 kw_1165 kw_1166 ⟨by decide, by decide, by decide +kernel⟩ ⟨rfl, rfl, (Nat.le_of_ble_eq_true rfl), (Nat.le_of_ble_eq_true rfl)⟩ rfl hl.1 rfl (Nat.le_of_ble_eq_true rfl) dX9_step_372 ⟨(Nat.le_of_ble_eq_true rfl), (Nat.le_of_ble_eq_true rfl)⟩) hP hS (fun r_372 H locs e_372 hP hS => ?_)
            obtain rfl := e_372
            refine lv_icmp_ge (tgt := 405) hx hb dX9_step_375 (by decide) (fun hc375 => ?_) (fun hc375 => ?_)
            · replace hw := hw.1 hc375
              refine lv_aload_n hx hb dX9_step_405 rfl (lv_at hl 3 rfl) ?_
              refine rt_callpL (sx_runV (n := 0) (As := []) (rest := []) F hP.2.1 0 rfl rfl (mtSZ0 l D cA q3 0 (ad 14) 0) rt_szblind (fun U hU hW => ⟨by rw [hU]; exact hP.2.1, va_K.moved hW.alike F.2⟩) kw_1167 kw_1320 kw_64 kw_1165 kw_1166 ⟨by decide, by decide, by decide +kernel⟩ ⟨rfl, rfl, (Nat.le_of_ble_eq_true rfl), (Nat.le_of_ble_eq_true rfl)⟩ rfl hl.1 rfl (Nat.le_of_ble_eq_true rfl) dX9_step_406 ⟨(Nat.le_of_ble_eq_true rfl), (Nat.le_of_ble_eq_true rfl)⟩) hP hS (fun r_406 H locs e_406 hP hS => ?_)
              obtain rfl := e_406
              exact W.iret (v := 0) hx hb hr (fun t ht hW => ⟨⟨0, M_363, rfl, hw, by unfold rt_B; rw [ht]; exact hP.1⟩, hS.F ht⟩) hS.2.2 dX9_step_409
            · replace hw := hw.2 hc375
              refine lv_aload_n hx hb dX9_step_378 rfl (lv_at hl 2 rfl) ?_
              refine rt_get F hP.1 (rt_c9 _ rt_k6) (rt_l9 rt_k6) inX9 rfl 5 (by decide) kw_1013 rfl rfl dX9_step_379 ?_
              refine lv_aload_n hx hb dX9_step_382 rfl (lv_at hl 3 rfl) ?_
              refine lv_iload hx hb dX9_step_383 (lv_at hl 0 rfl) ?_
              exact hw.elim
          · replace hw := hw.2 hc314
            refine lv_iload hx hb dX9_step_317 (lv_at hl 1 rfl) ?_
            refine lv_aload_n hx hb dX9_step_319 rfl (lv_at hl 2 rfl) ?_
            refine lv_aload_n hx hb dX9_step_320 rfl (lv_at hl 2 rfl) ?_
            refine rt_get F hP.1 (rt_c9 _ rt_k6) (rt_l9 rt_k6) inX9 rfl 10 (by decide) kw_1022 rfl rfl dX9_step_321 ?_
            refine rt_getN F hP.1 (rt_c12 _ rt_k0) (rt_l12 rt_k0) inX12 rfl 1 (by decide) kw_1141 rfl rfl dX9_step_324 ?_
            refine rt_get F hP.1 (rt_c8 _ rt_k1) (rt_l8 rt_k1) inX8 rfl 1 (by decide) kw_989 rfl rfl dX9_step_327 ?_
            refine lv_aload_n hx hb dX9_step_330 rfl (lv_at hl 3 rfl) ?_
            refine lv_iload hx hb dX9_step_331 (lv_at hl 0 rfl) ?_
            exact hw.elim
        · replace hw := hw.2 hc258
          refine lv_aload_n hx hb dX9_step_261 rfl (lv_at hl 1 rfl) ?_
          refine lv_aload_n hx hb dX9_step_262 rfl (lv_at hl 1 rfl) ?_
          refine rt_get F hP.1 (rt_c9 _ rt_k6) (rt_l9 rt_k6) inX9 rfl 10 (by decide) kw_1022 rfl rfl dX9_step_263 ?_
          refine rt_getN F hP.1 (rt_c12 _ rt_k0) (rt_l12 rt_k0) inX12 rfl 1 (by decide) kw_1141 rfl rfl dX9_step_266 ?_
          refine rt_get F hP.1 (rt_c8 _ rt_k1) (rt_l8 rt_k1) inX8 rfl 1 (by decide) kw_989 rfl rfl dX9_step_269 ?_
          refine lv_aload_n hx hb dX9_step_272 rfl (lv_at hl 2 rfl) ?_
          refine lv_iload hx hb dX9_step_273 (lv_at hl 0 rfl) ?_
          exact hw.elim
      · replace hw := hw.2 hc187
        refine lv_iload hx hb dX9_step_190 (lv_at hl 2 rfl) ?_
        refine lv_iload hx hb dX9_step_192 (lv_at hl 3 rfl) ?_
        refine rt_calliL hP (rt_runSN (n := 2) (As := [.int x4, .int x5]) (rest := []) F hP.1 hN hS (rt_frs hS.1) (mtX12_has l D cA ad hI _ x4 x5 M _ hw) kw_1226 kw_1321 kw_60 kw_1225 ⟨by decide, by decide, by decide +kernel⟩ ⟨rfl, rfl, Nat.le_of_ble_eq_true rfl, Nat.le_of_ble_eq_true rfl⟩ rfl hl.1 rfl (Nat.le_of_ble_eq_true rfl) dX9_step_194 ⟨Nat.zero_le _, Nat.zero_le _⟩) hS (fun _ h => h) (fun r_194 M_194 H locs hw hP hS _ _ => ?_)
        refine lv_if_ne (tgt := 203) hx hb dX9_step_197 (by decide) (fun hc197 => ?_) (fun hc197 => ?_)
        · replace hw := hw.1 hc197
          refine lv_aload_n hx hb dX9_step_203 rfl (lv_at hl 0 rfl) ?_
          refine lv_dup hx hb dX9_step_204 rfl ?_
          refine rt_get F hP.1 (rt_c9 _ rt_k6) (rt_l9 rt_k6) inX9 rfl 1 (by decide) kw_1005 rfl rfl dX9_step_205 ?_
          refine lv_iconst (v := 1) hx hb dX9_step_208 (by decide) ?_
          refine lv_iload hx hb dX9_step_209 (lv_at hl 3 rfl) ?_
          refine lv_ishl hx hb dX9_step_211 ?_
          refine lv_iconst (v := (-1)) hx hb dX9_step_212 (by decide) ?_
          refine lv_ixor hx hb dX9_step_213 ?_
          refine lv_iand hx hb dX9_step_214 ?_
          refine rt_put F hP.1 hD hS (rt_c9 _ rt_k6) (rt_l9 rt_k6) inX9 tyX9 tyX9_ok nmX9 rfl 1 (by decide) kw_1005 rfl rfl rfl rfl (Nat.le_of_ble_eq_true rfl) (rt_c9 _ rt_k6) dX9_step_215 (fun M_215 H locs eM_215 hP hS => ?_)
          replace hw := hw M_215 eM_215
          refine lv_aload_n hx hb dX9_step_218 rfl (lv_at hl 0 rfl) ?_
          refine lv_aload_n hx hb dX9_step_219 rfl (lv_at hl 0 rfl) ?_
          refine rt_get F hP.1 (rt_c9 _ rt_k6) (rt_l9 rt_k6) inX9 rfl 10 (by decide) kw_1022 rfl rfl dX9_step_220 ?_
          refine rt_getN F hP.1 (rt_c12 _ rt_k0) (rt_l12 rt_k0) inX12 rfl 1 (by decide) kw_1141 rfl rfl dX9_step_223 ?_
          refine rt_get F hP.1 (rt_c8 _ rt_k1) (rt_l8 rt_k1) inX8 rfl 0 (by decide) kw_986 rfl rfl dX9_step_226 ?_
          refine lv_iload hx hb dX9_step_229 (lv_at hl 3 rfl) ?_
          refine rt_call4L hP (rt_runV (n := 1) (As := [.int x5]) (rest := [.ref (ad 6)]) F hP.1 hN hS (rt_frs hS.1) (rt_c13 _ rt_k2) (rt_l13 rt_k2) rfl (mtJx4a65c_get_915e3 l D cA ad hI _ x5 M_215 _ hw) kw_1186 kw_1322 kw_64 kw_1184 kw_1185 ⟨by decide, by decide, by decide +kernel⟩ ⟨rfl, rfl, (Nat.le_of_ble_eq_true rfl), (Nat.le_of_ble_eq_true rfl)⟩ rfl hl.1 rfl (Nat.le_of_ble_eq_true rfl) dX9_step_231 ⟨Nat.zero_le _, Nat.zero_le _⟩) hS (fun _ h => h) (fun M_231 H locs hw hP hS _ _ => ?_)
          refine rt_cast4 F hP.1 kw_1323 dX9_step_234 ?_
          refine rt_get F hP.1 (rt_c10 _ rt_k4) (rt_l10 rt_k4) inX10 rfl 4 (by decide) kw_1068 rfl rfl dX9_step_237 ?_
          refine rt_callvL hP (rt_runV (n := 1) (As := [.ref (ad 13)]) (rest := []) F hP.1 hN hS (rt_frs hS.1) (rt_c9 _ rt_k6) (rt_l9 rt_k6) rfl (mtX9_act l D cA ad hI _ M_231 _ hw) kw_1327 kw_1324 kw_65 kw_1326 kw_33 ⟨by decide, by decide, by decide +kernel⟩ ⟨rfl, rfl, Nat.le_of_ble_eq_true rfl, Nat.le_of_ble_eq_true rfl⟩ rfl hl.1 rfl (Nat.le_of_ble_eq_true rfl) dX9_step_240 ⟨Nat.zero_le _, Nat.zero_le _⟩) hS (fun _ h => h) (fun M_240 H locs hw hP hS _ _ => ?_)
          exact J243 q3 x4 x5 M_240 _ _ _ hw hP hS (lv_sub hl [0, 1, 2, 3] rfl)
        · replace hw := hw.2 hc197
          refine lv_goto (tgt := 243) hx hb dX9_step_200 (by decide) ?_
          exact J243 q3 x4 x5 M_194 _ _ _ hw hP hS (lv_sub hl [0, 1, 2, 3] rfl)
  have L52 : ∀ (n52 : Nat) (q3 : Nat) (x4 : Int32) (x5 : Int32) (M : pt_M) (H : Heap) (locs : List Loc) (ls : Array Slot), lpX9_step_52 p1 p2 Q n52 q3 x4 x5 M → rt_L D cA ad s.heap.size q3 M H → va_S (rt_fr ad s.heap.size) s.heap H locs → lv_has ls 7 [(0, .ref (ad 6)), (3, .ref q3), (4, .int x4), (5, .int x5)] → W p l e (headSpec (Cond.code yX9_step cX9_step 7 (some .int) :: lw_all) ({ frames := 7, cells := 2, slots := 33, locals := 157 } : Room)).room s m ([.ref (ad 6), .int p1, .int p2] : List Value).toArray below meth c H locs 2 33 (MQ below (va_Qi Q (rt_B D cA ad) (rt_fr ad s.heap.size)) ([.ref (ad 6), .int p1, .int p2] : List Value).toArray s 2 33 (rt_fr ad s.heap.size)) (F0 m 52 ls []) := by
    intro n52
    induction n52 with
    | zero => intro q3 x4 x5 M H locs ls hw; exact hw.elim
    | succ n52 ih52 =>
      have J162 : ∀ (q3 : Nat) (x4 : Int32) (x5 : Int32) (M : pt_M) (H : Heap) (locs : List Loc) (ls : Array Slot), wjX9_step_162 p1 p2 Q (lpX9_step_52 p1 p2 Q n52) q3 x4 x5 M → rt_L D cA ad s.heap.size q3 M H → va_S (rt_fr ad s.heap.size) s.heap H locs → lv_has ls 7 [(0, .ref (ad 6)), (3, .ref q3), (4, .int x4), (5, .int x5)] → W p l e (headSpec (Cond.code yX9_step cX9_step 7 (some .int) :: lw_all) ({ frames := 7, cells := 2, slots := 33, locals := 157 } : Room)).room s m ([.ref (ad 6), .int p1, .int p2] : List Value).toArray below meth c H locs 2 33 (MQ below (va_Qi Q (rt_B D cA ad) (rt_fr ad s.heap.size)) ([.ref (ad 6), .int p1, .int p2] : List Value).toArray s 2 33 (rt_fr ad s.heap.size)) (F0 m 162 ls []) := by
        intro q3 x4 x5 M H locs ls hw hP hS hl
        unfold wjX9_step_162 at hw
        obtain ⟨x5_162, ex5_162⟩ : ∃ y : Int32, y = x5 + 1 := ⟨_, rfl⟩
        replace hw := hw x5_162 ex5_162
        refine lv_iinc (v := x5_162) (lv' := [(5, .int x5_162), (0, .ref (ad 6)), (3, .ref q3), (4, .int x4)]) hx hb dX9_step_162 hl (k := 3) rfl (by rw [ex5_162]; rfl) (by decide) rfl (fun ls hl => ?_)
        refine lv_goto (tgt := 52) hx hb dX9_step_165 (by decide) ?_
        exact ih52 q3 x4 x5_162 M _ _ _ hw hP hS (lv_sub hl [1, 2, 3, 0] rfl)
      intro q3 x4 x5 M H locs ls hw hP hS hl
      replace hw : lbX9_step_52 p1 p2 Q (lpX9_step_52 p1 p2 Q n52) q3 x4 x5 M := hw
      unfold lbX9_step_52 at hw
      refine lv_iload hx hb dX9_step_52 (lv_at hl 3 rfl) ?_
      refine lv_aload_n hx hb dX9_step_54 rfl (lv_at hl 0 rfl) ?_
      refine rt_get F hP.1 (rt_c9 _ rt_k6) (rt_l9 rt_k6) inX9 rfl 10 (by decide) kw_1022 rfl rfl dX9_step_55 ?_
      refine rt_getN F hP.1 (rt_c12 _ rt_k0) (rt_l12 rt_k0) inX12 rfl 1 (by decide) kw_1141 rfl rfl dX9_step_58 ?_
      refine rt_get F hP.1 (rt_c8 _ rt_k1) (rt_l8 rt_k1) inX8 rfl 0 (by decide) kw_986 rfl rfl dX9_step_61 ?_
      refine rt_calliL hP (rt_runV (n := 0) (As := []) (rest := [.int x5]) F hP.1 hN hS (rt_frs hS.1) (rt_c13 _ rt_k2) (rt_l13 rt_k2) rfl (mtJx4a65c_size_8abf5 l D cA ad hI _ 2 rt_k2 M _ hw) kw_1167 kw_1320 kw_64 kw_1165 kw_1166 ⟨by decide, by decide, by decide +kernel⟩ ⟨rfl, rfl, Nat.le_of_ble_eq_true rfl, Nat.le_of_ble_eq_true rfl⟩ rfl hl.1 rfl (Nat.le_of_ble_eq_true rfl) dX9_step_64 ⟨Nat.zero_le _, Nat.zero_le _⟩) hS (fun _ h => h) (fun r_64 M_64 H locs hw hP hS _ _ => ?_)
      refine lv_icmp_ge (tgt := 168) hx hb dX9_step_67 (by decide) (fun hc67 => ?_) (fun hc67 => ?_)
      · replace hw := hw.1 hc67
        refine lv_aload_n hx hb dX9_step_168 rfl (lv_at hl 0 rfl) ?_
        refine rt_get F hP.1 (rt_c9 _ rt_k6) (rt_l9 rt_k6) inX9 rfl 10 (by decide) kw_1022 rfl rfl dX9_step_169 ?_
        refine rt_getN F hP.1 (rt_c12 _ rt_k0) (rt_l12 rt_k0) inX12 rfl 1 (by decide) kw_1141 rfl rfl dX9_step_172 ?_
        refine rt_get F hP.1 (rt_c8 _ rt_k1) (rt_l8 rt_k1) inX8 rfl 0 (by decide) kw_986 rfl rfl dX9_step_175 ?_
        refine rt_calliL hP (rt_runV (n := 0) (As := []) (rest := []) F hP.1 hN hS (rt_frs hS.1) (rt_c13 _ rt_k2) (rt_l13 rt_k2) rfl (mtJx4a65c_size_8abf5 l D cA ad hI _ 2 rt_k2 M_64 _ hw) kw_1167 kw_1320 kw_64 kw_1165 kw_1166 ⟨by decide, by decide, by decide +kernel⟩ ⟨rfl, rfl, Nat.le_of_ble_eq_true rfl, Nat.le_of_ble_eq_true rfl⟩ rfl hl.1 rfl (Nat.le_of_ble_eq_true rfl) dX9_step_178 ⟨Nat.zero_le _, Nat.zero_le _⟩) hS (fun _ h => h) (fun r_178 M_178 H locs hw hP hS _ _ => ?_)
        refine lv_iconst (v := 1) hx hb dX9_step_181 (by decide) ?_
        refine lv_isub hx hb dX9_step_182 ?_
        refine lv_topi (fun x5_183 ex5_183 => ?_)
        replace hw := hw x5_183 ex5_183
        refine lv_istore (lv' := [(5, .int x5_183), (0, .ref (ad 6)), (3, .ref q3), (4, .int x4)]) hx hb dX9_step_183 hl (by decide) rfl (fun ls hl => ?_)
        obtain ⟨n_, hw⟩ := hw
        exact L185 n_ q3 x4 x5_183 M_178 _ _ _ hw hP hS (lv_sub hl [1, 2, 3, 0] rfl)
      · replace hw := hw.2 hc67
        refine lv_aload_n hx hb dX9_step_70 rfl (lv_at hl 0 rfl) ?_
        refine rt_get F hP.1 (rt_c9 _ rt_k6) (rt_l9 rt_k6) inX9 rfl 10 (by decide) kw_1022 rfl rfl dX9_step_71 ?_
        refine rt_getN F hP.1 (rt_c12 _ rt_k0) (rt_l12 rt_k0) inX12 rfl 1 (by decide) kw_1141 rfl rfl dX9_step_74 ?_
        refine rt_get F hP.1 (rt_c8 _ rt_k1) (rt_l8 rt_k1) inX8 rfl 0 (by decide) kw_986 rfl rfl dX9_step_77 ?_
        refine lv_iload hx hb dX9_step_80 (lv_at hl 3 rfl) ?_
        refine rt_call4L hP (rt_runV (n := 1) (As := [.int x5]) (rest := []) F hP.1 hN hS (rt_frs hS.1) (rt_c13 _ rt_k2) (rt_l13 rt_k2) rfl (mtJx4a65c_get_915e3 l D cA ad hI _ x5 M_64 _ hw) kw_1186 kw_1322 kw_64 kw_1184 kw_1185 ⟨by decide, by decide, by decide +kernel⟩ ⟨rfl, rfl, (Nat.le_of_ble_eq_true rfl), (Nat.le_of_ble_eq_true rfl)⟩ rfl hl.1 rfl (Nat.le_of_ble_eq_true rfl) dX9_step_82 ⟨Nat.zero_le _, Nat.zero_le _⟩) hS (fun _ h => h) (fun M_82 H locs hw hP hS _ _ => ?_)
        refine rt_cast4 F hP.1 kw_1323 dX9_step_85 ?_
        refine lv_astore (lv' := [(6, .ref (ad 4)), (0, .ref (ad 6)), (3, .ref q3), (4, .int x4), (5, .int x5)]) hx hb dX9_step_88 hl (by decide) rfl (fun ls hl => ?_)
        refine lv_aload hx hb dX9_step_90 (lv_at hl 0 rfl) ?_
        refine rt_calliL hP (rt_runV (n := 0) (As := []) (rest := []) F hP.1 hN hS (rt_frs hS.1) (rt_c10 _ rt_k4) (rt_l10 rt_k4) rfl (mtX10_isMark l D cA ad hI _ M_82 _ hw) kw_1223 kw_1422 kw_66 kw_1221 kw_1222 ⟨by decide, by decide, by decide +kernel⟩ ⟨rfl, rfl, Nat.le_of_ble_eq_true rfl, Nat.le_of_ble_eq_true rfl⟩ rfl hl.1 rfl (Nat.le_of_ble_eq_true rfl) dX9_step_92 ⟨Nat.zero_le _, Nat.zero_le _⟩) hS (fun _ h => h) (fun r_92 M_92 H locs hw hP hS _ _ => ?_)
        refine lv_if_eq (tgt := 162) hx hb dX9_step_95 (by decide) (fun hc95 => ?_) (fun hc95 => ?_)
        · replace hw := hw.1 hc95
          exact J162 q3 x4 x5 M_92 _ _ _ hw hP hS (lv_sub hl [1, 2, 3, 4] rfl)
        · replace hw := hw.2 hc95
          refine lv_iload hx hb dX9_step_98 (lv_at hl 3 rfl) ?_
          refine lv_aload hx hb dX9_step_100 (lv_at hl 0 rfl) ?_
          refine rt_get F hP.1 (rt_c10 _ rt_k4) (rt_l10 rt_k4) inX10 rfl 0 (by decide) kw_1056 rfl rfl dX9_step_102 ?_
          refine rt_calliL hP (rt_runSN (n := 2) (As := [.int x4, .int (M_92 4 0)]) (rest := []) F hP.1 hN hS (rt_frs hS.1) (mtX12_has l D cA ad hI _ x4 (M_92 4 0) M_92 _ hw) kw_1226 kw_1321 kw_60 kw_1225 ⟨by decide, by decide, by decide +kernel⟩ ⟨rfl, rfl, Nat.le_of_ble_eq_true rfl, Nat.le_of_ble_eq_true rfl⟩ rfl hl.1 rfl (Nat.le_of_ble_eq_true rfl) dX9_step_105 ⟨Nat.zero_le _, Nat.zero_le _⟩) hS (fun _ h => h) (fun r_105 M_105 H locs hw hP hS _ _ => ?_)
          refine lv_if_ne (tgt := 114) hx hb dX9_step_108 (by decide) (fun hc108 => ?_) (fun hc108 => ?_)
          · replace hw := hw.1 hc108
            refine lv_aload_n hx hb dX9_step_114 rfl (lv_at hl 1 rfl) ?_
            refine rt_get F hP.1 (rt_c9 _ rt_k6) (rt_l9 rt_k6) inX9 rfl 3 (by decide) kw_1009 rfl rfl dX9_step_115 ?_
            refine lv_iload hx hb dX9_step_118 (lv_at hl 4 rfl) ?_
            refine lv_aload hx hb dX9_step_120 (lv_at hl 0 rfl) ?_
            refine rt_get F hP.1 (rt_c10 _ rt_k4) (rt_l10 rt_k4) inX10 rfl 1 (by decide) kw_1059 rfl rfl dX9_step_122 ?_
            refine lv_iconst (v := 3) hx hb dX9_step_125 (by decide) ?_
            refine lv_icmp_ne (tgt := 152) hx hb dX9_step_126 (by decide) (fun hc126 => ?_) (fun hc126 => ?_)
            · replace hw := hw.1 hc126
              refine lv_aload_n hx hb dX9_step_152 rfl (lv_at hl 1 rfl) ?_
              refine lv_aload hx hb dX9_step_153 (lv_at hl 0 rfl) ?_
              refine rt_get F hP.1 (rt_c10 _ rt_k4) (rt_l10 rt_k4) inX10 rfl 0 (by decide) kw_1056 rfl rfl dX9_step_155 ?_
              exact hw.elim
            · replace hw := hw.2 hc126
              refine lv_aload_n hx hb dX9_step_129 rfl (lv_at hl 1 rfl) ?_
              refine rt_get F hP.1 (rt_c9 _ rt_k6) (rt_l9 rt_k6) inX9 rfl 1 (by decide) kw_1005 rfl rfl dX9_step_130 ?_
              refine lv_aload_n hx hb dX9_step_133 rfl (lv_at hl 1 rfl) ?_
              refine rt_get F hP.1 (rt_c9 _ rt_k6) (rt_l9 rt_k6) inX9 rfl 10 (by decide) kw_1022 rfl rfl dX9_step_134 ?_
              refine rt_getN F hP.1 (rt_c12 _ rt_k0) (rt_l12 rt_k0) inX12 rfl 1 (by decide) kw_1141 rfl rfl dX9_step_137 ?_
              refine lv_aload hx hb dX9_step_140 (lv_at hl 0 rfl) ?_
              refine rt_get F hP.1 (rt_c10 _ rt_k4) (rt_l10 rt_k4) inX10 rfl 0 (by decide) kw_1056 rfl rfl dX9_step_142 ?_
              refine rt_calliL hP (rt_runV (n := 1) (As := [.int (M_105 4 0)]) (rest := [.int (M_105 6 1), .int x5, .ref (ad 8)]) F hP.1 hN hS (rt_frs hS.1) (rt_c8 _ rt_k1) (rt_l8 rt_k1) rfl (mtX8_parts l D cA ad hI _ (M_105 4 0) M_105 _ hw) kw_1214 kw_1390 kw_61 kw_1212 kw_1213 ⟨by decide, by decide, by decide +kernel⟩ ⟨rfl, rfl, Nat.le_of_ble_eq_true rfl, Nat.le_of_ble_eq_true rfl⟩ rfl hl.1 rfl (Nat.le_of_ble_eq_true rfl) dX9_step_145 ⟨Nat.zero_le _, Nat.zero_le _⟩) hS (fun _ h => h) (fun r_145 M_145 H locs hw hP hS _ _ => ?_)
              refine lv_iand hx hb dX9_step_148 ?_
              refine lv_goto (tgt := 161) hx hb dX9_step_149 (by decide) ?_
              have hv161 := hw.1
              replace hw := hw.2
              refine rt_iast F hP.1 hD hS rt_a8 hv161 dX9_step_161 (fun M_161 H locs eM_161 hP hS => ?_)
              replace hw := hw M_161 eM_161
              exact J162 q3 x4 x5 M_161 _ _ _ hw hP hS (lv_sub hl [1, 2, 3, 4] rfl)
          · replace hw := hw.2 hc108
            refine lv_goto (tgt := 162) hx hb dX9_step_111 (by decide) ?_
            exact J162 q3 x4 x5 M_105 _ _ _ hw hP hS (lv_sub hl [1, 2, 3, 4] rfl)
  unfold wpX9_step at hw
  refine lv_aload_n hx hb dX9_step_0 rfl (lv_at hl 0 rfl) ?_
  refine lv_iload_n hx hb dX9_step_1 rfl (lv_at hl 1 rfl) ?_
  refine lv_iload_n hx hb dX9_step_2 rfl (lv_at hl 2 rfl) ?_
  refine rt_callT (rt_runVm (n := 2) (As := [.int p1, .int p2]) (rest := []) F hP hN hS (rt_frs hS.1) (rt_c9 _ rt_k6) (rt_l9 rt_k6) rfl (mtX9_taken l D cA ad hI _ p1 p2 M _ hw) kw_1368 kw_1365 kw_65 kw_1367 kw_36 ⟨by decide, by decide, by decide +kernel⟩ ⟨rfl, rfl, (Nat.le_of_ble_eq_true rfl), (Nat.le_of_ble_eq_true rfl)⟩ rfl hl.1 rfl (Nat.le_of_ble_eq_true rfl) dX9_step_3 ⟨(Nat.le_of_ble_eq_true rfl), (Nat.le_of_ble_eq_true rfl)⟩) hS (fun _ h => h) (fun q_3 M_3 H locs hw hP hS => ?_)
  refine W.widen (k := 2) (n := 33) (Nat.le_of_ble_eq_true rfl) (Nat.le_of_ble_eq_true rfl) ?_
  refine lv_astore_n (lv' := [(3, .ref q_3), (0, .ref (ad 6)), (1, .int p1), (2, .int p2)]) hx hb dX9_step_6 rfl hl (by decide) rfl (fun ls hl => ?_)
  refine lv_iconst (v := 0) hx hb dX9_step_7 (by decide) ?_
  refine lv_istore (lv' := [(4, .int 0), (3, .ref q_3), (0, .ref (ad 6)), (1, .int p1), (2, .int p2)]) hx hb dX9_step_8 hl (by decide) rfl (fun ls hl => ?_)
  refine lv_iconst (v := 0) hx hb dX9_step_10 (by decide) ?_
  refine lv_istore (lv' := [(5, .int 0), (4, .int 0), (3, .ref q_3), (0, .ref (ad 6)), (1, .int p1), (2, .int p2)]) hx hb dX9_step_11 hl (by decide) rfl (fun ls hl => ?_)
  refine lv_iload hx hb dX9_step_13 (lv_at hl 0 rfl) ?_
  refine lv_aload_n hx hb dX9_step_15 rfl (lv_at hl 2 rfl) ?_
  refine rt_callpL (sx_runV (n := 0) (As := []) (rest := [.int 0]) F hP.2.1 0 rfl rfl (mtSZ0 l D cA q_3 0 (ad 14) 0) rt_szblind (fun U hU hW => ⟨by rw [hU]; exact hP.2.1, va_K.moved hW.alike F.2⟩) kw_1167 kw_1320 kw_64 kw_1165 kw_1166 ⟨by decide, by decide, by decide +kernel⟩ ⟨rfl, rfl, (Nat.le_of_ble_eq_true rfl), (Nat.le_of_ble_eq_true rfl)⟩ rfl hl.1 rfl (Nat.le_of_ble_eq_true rfl) dX9_step_16 ⟨(Nat.le_of_ble_eq_true rfl), (Nat.le_of_ble_eq_true rfl)⟩) hP hS (fun r_16 H locs e_16 hP hS => ?_)
  obtain rfl := e_16
  refine lv_icmp_ge (tgt := 49) hx hb dX9_step_19 (by decide) (fun hc19 => ?_) (fun hc19 => ?_)
  · replace hw := hw.1 hc19
    refine lv_iconst (v := 0) hx hb dX9_step_49 (by decide) ?_
    refine lv_istore (lv' := [(5, .int 0), (4, .int 0), (3, .ref q_3), (0, .ref (ad 6)), (1, .int p1), (2, .int p2)]) hx hb dX9_step_50 hl (by decide) rfl (fun ls hl => ?_)
    obtain ⟨n_, hw⟩ := hw
    exact L52 n_ q_3 0 0 M_3 _ _ _ hw hP hS (lv_sub hl [3, 2, 1, 0] rfl)
  · replace hw := hw.2 hc19
    refine lv_iload hx hb dX9_step_22 (lv_at hl 1 rfl) ?_
    refine lv_aload_n hx hb dX9_step_24 rfl (lv_at hl 3 rfl) ?_
    refine lv_aload_n hx hb dX9_step_25 rfl (lv_at hl 2 rfl) ?_
    refine lv_iload hx hb dX9_step_26 (lv_at hl 0 rfl) ?_
    exact hw.elim
-- ===== X9_settle
def wjX9_settle_84 (p1 : Int32) (Q : Int32 → pt_M → Prop)   (M : pt_M) : Prop :=
  False
def wpX9_settle (p1 : Int32) (M : pt_M) (Q : Int32 → pt_M → Prop) : Prop :=
  wpX9_isOver M (fun (r_5 : Int32) (M_5 : pt_M) => (¬ r_5 = 0 → wjX9_settle_84 p1 Q M_5) ∧ (r_5 = 0 → (12 ≤ p1 → wjX9_settle_84 p1 Q M_5) ∧ (¬ 12 ≤ p1 → wpX9_step 2 (-1) M_5 (fun (r_20 : Int32) (M_20 : pt_M) => (¬ r_20 = 0 → False) ∧ (r_20 = 0 → wpJx4a65c_isEmpty_aae02 11 M_20 (fun (r_34 : Int32) (M_34 : pt_M) => (r_34 = 0 → False) ∧ (¬ r_34 = 0 → Q 0 M_34)))))))
set_option maxHeartbeats 4000000 in
set_option maxRecDepth 100000 in
theorem mtX9_settle (l : Launch) (D : va_G) (cA : Nat → ClassId) (ad : Nat → Nat) (hI : rt_I ad) (sz : Nat) (p1 : Int32) (M : pt_M) (Q : Int32 → pt_M → Prop) (hw : wpX9_settle p1 M Q) : Met l yX9_settle (Cond.code yX9_settle cX9_settle 5 (some .int) :: lw_all) ({ frames := 8, cells := 2, slots := 33, locals := 183 } : Room) (va_Pc [.ref (ad 6), .int p1] (rt_P D cA ad sz M)) (va_Qi Q (rt_B D cA ad) (rt_fr ad sz)) 2 33 (rt_fr ad sz) := by
  refine Met.ofW (cc := cX9_settle) (maxL := 5) (ret := (some .int)) (by decide) rfl ?_
  intro p e s m args below meth c s₁ B hml hv
  obtain ⟨rfl, hsz, hP, hK, hN⟩ := hv
  have hx := B.exec
  have hb := B.bytes
  have hr := B.returns
  have hts0 := atoms_spec (ws := (Cond.code yX9_settle cX9_settle 5 (some .int) :: lw_all)) B.pre
  have hown : s.vm.findClass RX9 = some m.cls := findClass_of_methodNamed B.named
  have hlocks := B.notSynchronized
  subst hsz
  have F : pt_F p m c cX9_settle 5 s _ RX9 D cA := ⟨⟨hx, hb, hml, hown, fun w h => hts0 w (List.mem_cons_of_mem _ h)⟩, hK⟩
  have hD : ∀ M, va_D (rt_fr ad s.heap.size) (rt_W cA ad M) := rt_D hI (fun k h => Or.inl ⟨k, h, rfl⟩)
  have hS : va_S (rt_fr ad s.heap.size) s.heap s.heap [] := va_S.rf
  have hl := lv_entry ([.ref (ad 6), .int p1]) (n := 5) (Nat.le_of_ble_eq_true rfl)
  rw [lg_entry_eq]
  generalize (lg_sl ([.ref (ad 6), .int p1]) ++ List.replicate (5 - (lg_sl ([.ref (ad 6), .int p1])).length) Slot.unset).toArray = ls at hl ⊢
  have hl : lv_has ls 5 [(0, .ref (ad 6)), (1, .int p1)] := hl
  have J84 : ∀ (M : pt_M) (H : Heap) (locs : List Loc) (ls : Array Slot), wjX9_settle_84 p1 Q M → va_P D pt_cl (rt_W cA ad M) H → va_S (rt_fr ad s.heap.size) s.heap H locs → lv_has ls 5 [] → W p l e (headSpec (Cond.code yX9_settle cX9_settle 5 (some .int) :: lw_all) ({ frames := 8, cells := 2, slots := 33, locals := 183 } : Room)).room s m ([.ref (ad 6), .int p1] : List Value).toArray below meth c H locs 0 0 (MQ below (va_Qi Q (rt_B D cA ad) (rt_fr ad s.heap.size)) ([.ref (ad 6), .int p1] : List Value).toArray s 2 33 (rt_fr ad s.heap.size)) (F0 m 84 ls []) := by
    intro M H locs ls hw hP hS hl
    unfold wjX9_settle_84 at hw
    exact hw.elim
  unfold wpX9_settle at hw
  refine lv_iconst (v := 0) hx hb dX9_settle_0 (by decide) ?_
  refine lv_istore_n (lv' := [(2, .int 0), (0, .ref (ad 6)), (1, .int p1)]) hx hb dX9_settle_1 rfl hl (by decide) rfl (fun ls hl => ?_)
  refine lv_iload_n hx hb dX9_settle_2 rfl (lv_at hl 2 rfl) ?_
  refine lv_istore_n (lv' := [(3, .int p1), (2, .int 0), (0, .ref (ad 6)), (1, .int p1)]) hx hb dX9_settle_3 rfl hl (by decide) rfl (fun ls hl => ?_)
  refine lv_aload_n hx hb dX9_settle_4 rfl (lv_at hl 2 rfl) ?_
  refine rt_calli (rt_runV (n := 0) (As := []) (rest := []) F hP hN hS (rt_frs hS.1) (rt_c9 _ rt_k6) (rt_l9 rt_k6) rfl (mtX9_isOver l D cA ad hI _ M _ hw) kw_1358 kw_1355 kw_65 kw_1356 kw_1357 ⟨by decide, by decide, by decide +kernel⟩ ⟨rfl, rfl, Nat.le_of_ble_eq_true rfl, Nat.le_of_ble_eq_true rfl⟩ rfl hl.1 rfl (Nat.le_of_ble_eq_true rfl) dX9_settle_5 ⟨Nat.zero_le _, Nat.zero_le _⟩) hS (fun _ h => h) (fun r_5 M_5 H locs hw hP hS _ _ => ?_)
  refine lv_if_ne (tgt := 84) hx hb dX9_settle_8 (by decide) (fun hc8 => ?_) (fun hc8 => ?_)
  · replace hw := hw.1 hc8
    exact J84 M_5 _ _ _ hw hP hS (lv_sub hl [] rfl)
  · replace hw := hw.2 hc8
    refine lv_iload_n hx hb dX9_settle_11 rfl (lv_at hl 0 rfl) ?_
    refine lv_bipush (v := 12) hx hb dX9_settle_12 (by decide) ?_
    refine lv_icmp_ge (tgt := 84) hx hb dX9_settle_14 (by decide) (fun hc14 => ?_) (fun hc14 => ?_)
    · replace hw := hw.1 hc14
      exact J84 M_5 _ _ _ hw hP hS (lv_sub hl [] rfl)
    · replace hw := hw.2 hc14
      refine lv_aload_n hx hb dX9_settle_17 rfl (lv_at hl 2 rfl) ?_
      refine lv_iconst (v := 2) hx hb dX9_settle_18 (by decide) ?_
      refine lv_iconst (v := (-1)) hx hb dX9_settle_19 (by decide) ?_
      refine rt_callim (rt_runVm (n := 2) (As := [.int 2, .int (-1)]) (rest := []) F hP hN hS (rt_frs hS.1) (rt_c9 _ rt_k6) (rt_l9 rt_k6) rfl (mtX9_step l D cA ad hI _ 2 (-1) M_5 _ hw) kw_1364 kw_1361 kw_65 kw_1363 kw_35 ⟨by decide, by decide, by decide +kernel⟩ ⟨rfl, rfl, (Nat.le_of_ble_eq_true rfl), (Nat.le_of_ble_eq_true rfl)⟩ rfl hl.1 rfl (Nat.le_of_ble_eq_true rfl) dX9_settle_20 ⟨(Nat.le_of_ble_eq_true rfl), (Nat.le_of_ble_eq_true rfl)⟩) hS (fun _ h => h) (fun r_20 M_20 H locs hw hP hS _ _ => ?_)
      refine W.widen (k := 2) (n := 33) (Nat.le_of_ble_eq_true rfl) (Nat.le_of_ble_eq_true rfl) ?_
      refine lv_istore (lv' := [(4, .int r_20), (3, .int p1), (2, .int 0), (0, .ref (ad 6)), (1, .int p1)]) hx hb dX9_settle_23 hl (by decide) rfl (fun ls hl => ?_)
      refine lv_iload hx hb dX9_settle_25 (lv_at hl 0 rfl) ?_
      refine lv_if_ne (tgt := 63) hx hb dX9_settle_27 (by decide) (fun hc27 => ?_) (fun hc27 => ?_)
      · replace hw := hw.1 hc27
        exact hw.elim
      · replace hw := hw.2 hc27
        refine lv_aload_n hx hb dX9_settle_30 rfl (lv_at hl 3 rfl) ?_
        refine rt_get F hP (rt_c9 _ rt_k6) (rt_l9 rt_k6) inX9 rfl 6 (by decide) kw_1015 rfl rfl dX9_settle_31 ?_
        refine rt_calli (rt_runV (n := 0) (As := []) (rest := []) F hP hN hS (rt_frs hS.1) (rt_c13 _ rt_k11) (rt_l13 rt_k11) rfl (mtJx4a65c_isEmpty_aae02 l D cA ad hI _ 11 rt_k11 M_20 _ hw) kw_1439 kw_1436 kw_64 kw_1437 kw_1438 ⟨by decide, by decide, by decide +kernel⟩ ⟨rfl, rfl, Nat.le_of_ble_eq_true rfl, Nat.le_of_ble_eq_true rfl⟩ rfl hl.1 rfl (Nat.le_of_ble_eq_true rfl) dX9_settle_34 ⟨Nat.zero_le _, Nat.zero_le _⟩) hS (fun _ h => h) (fun r_34 M_34 H locs hw hP hS _ _ => ?_)
        refine lv_if_eq (tgt := 42) hx hb dX9_settle_37 (by decide) (fun hc37 => ?_) (fun hc37 => ?_)
        · replace hw := hw.1 hc37
          exact hw.elim
        · replace hw := hw.2 hc37
          refine lv_iload_n hx hb dX9_settle_40 rfl (lv_at hl 2 rfl) ?_
          exact W.iret (v := 0) hx hb hr (fun t ht hW => ⟨⟨0, M_34, rfl, hw, by unfold rt_B; rw [ht]; exact hP⟩, hS.F ht⟩) hS.2.2 dX9_settle_41
-- ===== X9_start
def lbX9_start_70  (Q : Int32 → pt_M → Prop)  (R70 : Int32 → pt_M → Prop) (x1 : Int32) (M : pt_M) : Prop :=
  (30 ≤ x1 → wpX8_filled 0 M (fun (r_98 : Int32) (M_98 : pt_M) => wpX9_enter r_98 M_98 (fun (M_101 : pt_M) => wpX9_settle 0 M_101 (fun (r_106 : Int32) (M_106 : pt_M) => Q r_106 M_106)))) ∧ (¬ 30 ≤ x1 → vp_in x1 30 ∧ ∀ M_82 : pt_M, M_82 = pt_st M 10 (Int32.toNatClampNeg x1) 0 → ∀ x1_83 : Int32, x1_83 = x1 + 1 → R70 x1_83 M_82)
def lpX9_start_70  (Q : Int32 → pt_M → Prop)  : Nat → Int32 → pt_M → Prop
  | 0 => fun _ _ => False
  | n + 1 => fun x1 M => lbX9_start_70 Q (lpX9_start_70 Q n) x1 M
def lbX9_start_49  (Q : Int32 → pt_M → Prop)  (R49 : Int32 → pt_M → Prop) (x1 : Int32) (M : pt_M) : Prop :=
  (20 ≤ x1 → ∃ n : Nat, lpX9_start_70 Q n 0 M) ∧ (¬ 20 ≤ x1 → vp_in x1 20 ∧ ∀ M_61 : pt_M, M_61 = pt_st M 8 (Int32.toNatClampNeg x1) 0 → ∀ x1_62 : Int32, x1_62 = x1 + 1 → R49 x1_62 M_61)
def lpX9_start_49  (Q : Int32 → pt_M → Prop)  : Nat → Int32 → pt_M → Prop
  | 0 => fun _ _ => False
  | n + 1 => fun x1 M => lbX9_start_49 Q (lpX9_start_49 Q n) x1 M
def lbX9_start_29  (Q : Int32 → pt_M → Prop)  (R29 : Int32 → pt_M → Prop) (x1 : Int32) (M : pt_M) : Prop :=
  (4 ≤ x1 → ∃ n : Nat, lpX9_start_49 Q n 0 M) ∧ (¬ 4 ≤ x1 → vp_in x1 4 ∧ ∀ M_40 : pt_M, M_40 = pt_st M 9 (Int32.toNatClampNeg x1) 0 → ∀ x1_41 : Int32, x1_41 = x1 + 1 → R29 x1_41 M_40)
def lpX9_start_29  (Q : Int32 → pt_M → Prop)  : Nat → Int32 → pt_M → Prop
  | 0 => fun _ _ => False
  | n + 1 => fun x1 M => lbX9_start_29 Q (lpX9_start_29 Q n) x1 M
def wpX9_start  (M : pt_M) (Q : Int32 → pt_M → Prop) : Prop :=
  ∀ M_2 : pt_M, M_2 = pt_st M 6 0 1 → ∀ M_7 : pt_M, M_7 = pt_st M_2 6 7 0 → ∀ M_12 : pt_M, M_12 = pt_st M_7 6 8 0 → ∀ M_17 : pt_M, M_17 = pt_st M_12 6 9 0 → wpJx4a65c_clear_da8c8 11 M_17 (fun (M_24 : pt_M) => ∃ n : Nat, lpX9_start_29 Q n 0 M_24)
set_option maxHeartbeats 4000000 in
set_option maxRecDepth 100000 in
theorem mtX9_start (l : Launch) (D : va_G) (cA : Nat → ClassId) (ad : Nat → Nat) (hI : rt_I ad) (sz : Nat) (M : pt_M) (Q : Int32 → pt_M → Prop) (hw : wpX9_start M Q) : Met l yX9_start (Cond.code yX9_start cX9_start 2 (some .int) :: lw_all) ({ frames := 9, cells := 2, slots := 33, locals := 207 } : Room) (va_Pc [.ref (ad 6)] (rt_P D cA ad sz M)) (va_Qi Q (rt_B D cA ad) (rt_fr ad sz)) 2 33 (rt_fr ad sz) := by
  refine Met.ofW (cc := cX9_start) (maxL := 2) (ret := (some .int)) (by decide) rfl ?_
  intro p e s m args below meth c s₁ B hml hv
  obtain ⟨rfl, hsz, hP, hK, hN⟩ := hv
  have hx := B.exec
  have hb := B.bytes
  have hr := B.returns
  have hts0 := atoms_spec (ws := (Cond.code yX9_start cX9_start 2 (some .int) :: lw_all)) B.pre
  have hown : s.vm.findClass RX9 = some m.cls := findClass_of_methodNamed B.named
  have hlocks := B.notSynchronized
  subst hsz
  have F : pt_F p m c cX9_start 2 s _ RX9 D cA := ⟨⟨hx, hb, hml, hown, fun w h => hts0 w (List.mem_cons_of_mem _ h)⟩, hK⟩
  have hD : ∀ M, va_D (rt_fr ad s.heap.size) (rt_W cA ad M) := rt_D hI (fun k h => Or.inl ⟨k, h, rfl⟩)
  have hS : va_S (rt_fr ad s.heap.size) s.heap s.heap [] := va_S.rf
  have hl := lv_entry ([.ref (ad 6)]) (n := 2) (Nat.le_of_ble_eq_true rfl)
  rw [lg_entry_eq]
  generalize (lg_sl ([.ref (ad 6)]) ++ List.replicate (2 - (lg_sl ([.ref (ad 6)])).length) Slot.unset).toArray = ls at hl ⊢
  have hl : lv_has ls 2 [(0, .ref (ad 6))] := hl
  have L70 : ∀ (n70 : Nat) (x1 : Int32) (M : pt_M) (H : Heap) (locs : List Loc) (ls : Array Slot), lpX9_start_70 Q n70 x1 M → va_P D pt_cl (rt_W cA ad M) H → va_S (rt_fr ad s.heap.size) s.heap H locs → lv_has ls 2 [(0, .ref (ad 6)), (1, .int x1)] → W p l e (headSpec (Cond.code yX9_start cX9_start 2 (some .int) :: lw_all) ({ frames := 9, cells := 2, slots := 33, locals := 207 } : Room)).room s m ([.ref (ad 6)] : List Value).toArray below meth c H locs 0 0 (MQ below (va_Qi Q (rt_B D cA ad) (rt_fr ad s.heap.size)) ([.ref (ad 6)] : List Value).toArray s 2 33 (rt_fr ad s.heap.size)) (F0 m 70 ls []) := by
    intro n70
    induction n70 with
    | zero => intro x1 M H locs ls hw; exact hw.elim
    | succ n70 ih70 =>
      intro x1 M H locs ls hw hP hS hl
      replace hw : lbX9_start_70 Q (lpX9_start_70 Q n70) x1 M := hw
      unfold lbX9_start_70 at hw
      refine lv_iload_n hx hb dX9_start_70 rfl (lv_at hl 1 rfl) ?_
      refine lv_bipush (v := 30) hx hb dX9_start_71 (by decide) ?_
      refine lv_icmp_ge (tgt := 89) hx hb dX9_start_73 (by decide) (fun hc73 => ?_) (fun hc73 => ?_)
      · replace hw := hw.1 hc73
        refine lv_aload_n hx hb dX9_start_89 rfl (lv_at hl 0 rfl) ?_
        refine lv_aload_n hx hb dX9_start_90 rfl (lv_at hl 0 rfl) ?_
        refine rt_get F hP (rt_c9 _ rt_k6) (rt_l9 rt_k6) inX9 rfl 10 (by decide) kw_1022 rfl rfl dX9_start_91 ?_
        refine rt_getN F hP (rt_c12 _ rt_k0) (rt_l12 rt_k0) inX12 rfl 1 (by decide) kw_1141 rfl rfl dX9_start_94 ?_
        refine lv_iconst (v := 0) hx hb dX9_start_97 (by decide) ?_
        refine rt_calli (rt_runV (n := 1) (As := [.int 0]) (rest := [.ref (ad 6)]) F hP hN hS (rt_frs hS.1) (rt_c8 _ rt_k1) (rt_l8 rt_k1) rfl (mtX8_filled l D cA ad hI _ 0 M _ hw) kw_1312 kw_1309 kw_61 kw_1310 kw_1311 ⟨by decide, by decide, by decide +kernel⟩ ⟨rfl, rfl, Nat.le_of_ble_eq_true rfl, Nat.le_of_ble_eq_true rfl⟩ rfl hl.1 rfl (Nat.le_of_ble_eq_true rfl) dX9_start_98 ⟨Nat.zero_le _, Nat.zero_le _⟩) hS (fun _ h => h) (fun r_98 M_98 H locs hw hP hS _ _ => ?_)
        refine rt_callv (rt_runV (n := 1) (As := [.int r_98]) (rest := []) F hP hN hS (rt_frs hS.1) (rt_c9 _ rt_k6) (rt_l9 rt_k6) rfl (mtX9_enter l D cA ad hI _ r_98 M_98 _ hw) kw_1319 kw_1316 kw_65 kw_1318 kw_32 ⟨by decide, by decide, by decide +kernel⟩ ⟨rfl, rfl, Nat.le_of_ble_eq_true rfl, Nat.le_of_ble_eq_true rfl⟩ rfl hl.1 rfl (Nat.le_of_ble_eq_true rfl) dX9_start_101 ⟨Nat.zero_le _, Nat.zero_le _⟩) hS (fun _ h => h) (fun M_101 H locs hw hP hS _ _ => ?_)
        refine lv_aload_n hx hb dX9_start_104 rfl (lv_at hl 0 rfl) ?_
        refine lv_iconst (v := 0) hx hb dX9_start_105 (by decide) ?_
        refine rt_callim (rt_runVm (n := 1) (As := [.int 0]) (rest := []) F hP hN hS (rt_frs hS.1) (rt_c9 _ rt_k6) (rt_l9 rt_k6) rfl (mtX9_settle l D cA ad hI _ 0 M_101 _ hw) kw_1354 kw_1351 kw_65 kw_1353 kw_34 ⟨by decide, by decide, by decide +kernel⟩ ⟨rfl, rfl, (Nat.le_of_ble_eq_true rfl), (Nat.le_of_ble_eq_true rfl)⟩ rfl hl.1 rfl (Nat.le_of_ble_eq_true rfl) dX9_start_106 ⟨(Nat.le_of_ble_eq_true rfl), (Nat.le_of_ble_eq_true rfl)⟩) hS (fun _ h => h) (fun r_106 M_106 H locs hw hP hS _ _ => ?_)
        refine W.widen (k := 2) (n := 33) (Nat.le_of_ble_eq_true rfl) (Nat.le_of_ble_eq_true rfl) ?_
        exact W.iret (v := r_106) hx hb hr (fun t ht hW => ⟨⟨r_106, M_106, rfl, hw, by unfold rt_B; rw [ht]; exact hP⟩, hS.F ht⟩) hS.2.2 dX9_start_109
      · replace hw := hw.2 hc73
        refine lv_aload_n hx hb dX9_start_76 rfl (lv_at hl 0 rfl) ?_
        refine rt_get F hP (rt_c9 _ rt_k6) (rt_l9 rt_k6) inX9 rfl 5 (by decide) kw_1013 rfl rfl dX9_start_77 ?_
        refine lv_iload_n hx hb dX9_start_80 rfl (lv_at hl 1 rfl) ?_
        refine lv_iconst (v := 0) hx hb dX9_start_81 (by decide) ?_
        have hv82 := hw.1
        replace hw := hw.2
        refine rt_iast F hP hD hS rt_a10 hv82 dX9_start_82 (fun M_82 H locs eM_82 hP hS => ?_)
        replace hw := hw M_82 eM_82
        obtain ⟨x1_83, ex1_83⟩ : ∃ y : Int32, y = x1 + 1 := ⟨_, rfl⟩
        replace hw := hw x1_83 ex1_83
        refine lv_iinc (v := x1_83) (lv' := [(1, .int x1_83), (0, .ref (ad 6))]) hx hb dX9_start_83 hl (k := 1) rfl (by rw [ex1_83]; rfl) (by decide) rfl (fun ls hl => ?_)
        refine lv_goto (tgt := 70) hx hb dX9_start_86 (by decide) ?_
        exact ih70 x1_83 M_82 _ _ _ hw hP hS (lv_sub hl [1, 0] rfl)
  have L49 : ∀ (n49 : Nat) (x1 : Int32) (M : pt_M) (H : Heap) (locs : List Loc) (ls : Array Slot), lpX9_start_49 Q n49 x1 M → va_P D pt_cl (rt_W cA ad M) H → va_S (rt_fr ad s.heap.size) s.heap H locs → lv_has ls 2 [(0, .ref (ad 6)), (1, .int x1)] → W p l e (headSpec (Cond.code yX9_start cX9_start 2 (some .int) :: lw_all) ({ frames := 9, cells := 2, slots := 33, locals := 207 } : Room)).room s m ([.ref (ad 6)] : List Value).toArray below meth c H locs 0 0 (MQ below (va_Qi Q (rt_B D cA ad) (rt_fr ad s.heap.size)) ([.ref (ad 6)] : List Value).toArray s 2 33 (rt_fr ad s.heap.size)) (F0 m 49 ls []) := by
    intro n49
    induction n49 with
    | zero => intro x1 M H locs ls hw; exact hw.elim
    | succ n49 ih49 =>
      intro x1 M H locs ls hw hP hS hl
      replace hw : lbX9_start_49 Q (lpX9_start_49 Q n49) x1 M := hw
      unfold lbX9_start_49 at hw
      refine lv_iload_n hx hb dX9_start_49 rfl (lv_at hl 1 rfl) ?_
      refine lv_bipush (v := 20) hx hb dX9_start_50 (by decide) ?_
      refine lv_icmp_ge (tgt := 68) hx hb dX9_start_52 (by decide) (fun hc52 => ?_) (fun hc52 => ?_)
      · replace hw := hw.1 hc52
        refine lv_iconst (v := 0) hx hb dX9_start_68 (by decide) ?_
        refine lv_istore_n (lv' := [(1, .int 0), (0, .ref (ad 6))]) hx hb dX9_start_69 rfl hl (by decide) rfl (fun ls hl => ?_)
        obtain ⟨n_, hw⟩ := hw
        exact L70 n_ 0 M _ _ _ hw hP hS (lv_sub hl [1, 0] rfl)
      · replace hw := hw.2 hc52
        refine lv_aload_n hx hb dX9_start_55 rfl (lv_at hl 0 rfl) ?_
        refine rt_get F hP (rt_c9 _ rt_k6) (rt_l9 rt_k6) inX9 rfl 3 (by decide) kw_1009 rfl rfl dX9_start_56 ?_
        refine lv_iload_n hx hb dX9_start_59 rfl (lv_at hl 1 rfl) ?_
        refine lv_iconst (v := 0) hx hb dX9_start_60 (by decide) ?_
        have hv61 := hw.1
        replace hw := hw.2
        refine rt_iast F hP hD hS rt_a8 hv61 dX9_start_61 (fun M_61 H locs eM_61 hP hS => ?_)
        replace hw := hw M_61 eM_61
        obtain ⟨x1_62, ex1_62⟩ : ∃ y : Int32, y = x1 + 1 := ⟨_, rfl⟩
        replace hw := hw x1_62 ex1_62
        refine lv_iinc (v := x1_62) (lv' := [(1, .int x1_62), (0, .ref (ad 6))]) hx hb dX9_start_62 hl (k := 1) rfl (by rw [ex1_62]; rfl) (by decide) rfl (fun ls hl => ?_)
        refine lv_goto (tgt := 49) hx hb dX9_start_65 (by decide) ?_
        exact ih49 x1_62 M_61 _ _ _ hw hP hS (lv_sub hl [1, 0] rfl)
  have L29 : ∀ (n29 : Nat) (x1 : Int32) (M : pt_M) (H : Heap) (locs : List Loc) (ls : Array Slot), lpX9_start_29 Q n29 x1 M → va_P D pt_cl (rt_W cA ad M) H → va_S (rt_fr ad s.heap.size) s.heap H locs → lv_has ls 2 [(0, .ref (ad 6)), (1, .int x1)] → W p l e (headSpec (Cond.code yX9_start cX9_start 2 (some .int) :: lw_all) ({ frames := 9, cells := 2, slots := 33, locals := 207 } : Room)).room s m ([.ref (ad 6)] : List Value).toArray below meth c H locs 0 0 (MQ below (va_Qi Q (rt_B D cA ad) (rt_fr ad s.heap.size)) ([.ref (ad 6)] : List Value).toArray s 2 33 (rt_fr ad s.heap.size)) (F0 m 29 ls []) := by
    intro n29
    induction n29 with
    | zero => intro x1 M H locs ls hw; exact hw.elim
    | succ n29 ih29 =>
      intro x1 M H locs ls hw hP hS hl
      replace hw : lbX9_start_29 Q (lpX9_start_29 Q n29) x1 M := hw
      unfold lbX9_start_29 at hw
      refine lv_iload_n hx hb dX9_start_29 rfl (lv_at hl 1 rfl) ?_
      refine lv_iconst (v := 4) hx hb dX9_start_30 (by decide) ?_
      refine lv_icmp_ge (tgt := 47) hx hb dX9_start_31 (by decide) (fun hc31 => ?_) (fun hc31 => ?_)
      · replace hw := hw.1 hc31
        refine lv_iconst (v := 0) hx hb dX9_start_47 (by decide) ?_
        refine lv_istore_n (lv' := [(1, .int 0), (0, .ref (ad 6))]) hx hb dX9_start_48 rfl hl (by decide) rfl (fun ls hl => ?_)
        obtain ⟨n_, hw⟩ := hw
        exact L49 n_ 0 M _ _ _ hw hP hS (lv_sub hl [1, 0] rfl)
      · replace hw := hw.2 hc31
        refine lv_aload_n hx hb dX9_start_34 rfl (lv_at hl 0 rfl) ?_
        refine rt_get F hP (rt_c9 _ rt_k6) (rt_l9 rt_k6) inX9 rfl 4 (by decide) kw_1011 rfl rfl dX9_start_35 ?_
        refine lv_iload_n hx hb dX9_start_38 rfl (lv_at hl 1 rfl) ?_
        refine lv_iconst (v := 0) hx hb dX9_start_39 (by decide) ?_
        have hv40 := hw.1
        replace hw := hw.2
        refine rt_iast F hP hD hS rt_a9 hv40 dX9_start_40 (fun M_40 H locs eM_40 hP hS => ?_)
        replace hw := hw M_40 eM_40
        obtain ⟨x1_41, ex1_41⟩ : ∃ y : Int32, y = x1 + 1 := ⟨_, rfl⟩
        replace hw := hw x1_41 ex1_41
        refine lv_iinc (v := x1_41) (lv' := [(1, .int x1_41), (0, .ref (ad 6))]) hx hb dX9_start_41 hl (k := 1) rfl (by rw [ex1_41]; rfl) (by decide) rfl (fun ls hl => ?_)
        refine lv_goto (tgt := 29) hx hb dX9_start_44 (by decide) ?_
        exact ih29 x1_41 M_40 _ _ _ hw hP hS (lv_sub hl [1, 0] rfl)
  unfold wpX9_start at hw
  refine lv_aload_n hx hb dX9_start_0 rfl (lv_at hl 0 rfl) ?_
  refine lv_iconst (v := 1) hx hb dX9_start_1 (by decide) ?_
  refine rt_put F hP hD hS (rt_c9 _ rt_k6) (rt_l9 rt_k6) inX9 tyX9 tyX9_ok nmX9 rfl 0 (by decide) kw_1003 rfl rfl rfl rfl (Nat.le_of_ble_eq_true rfl) (rt_c9 _ rt_k6) dX9_start_2 (fun M_2 H locs eM_2 hP hS => ?_)
  replace hw := hw M_2 eM_2
  refine lv_aload_n hx hb dX9_start_5 rfl (lv_at hl 0 rfl) ?_
  refine lv_iconst (v := 0) hx hb dX9_start_6 (by decide) ?_
  refine rt_put F hP hD hS (rt_c9 _ rt_k6) (rt_l9 rt_k6) inX9 tyX9 tyX9_ok nmX9 rfl 7 (by decide) kw_1016 rfl rfl rfl rfl (Nat.le_of_ble_eq_true rfl) (rt_c9 _ rt_k6) dX9_start_7 (fun M_7 H locs eM_7 hP hS => ?_)
  replace hw := hw M_7 eM_7
  refine lv_aload_n hx hb dX9_start_10 rfl (lv_at hl 0 rfl) ?_
  refine lv_iconst (v := 0) hx hb dX9_start_11 (by decide) ?_
  refine rt_put F hP hD hS (rt_c9 _ rt_k6) (rt_l9 rt_k6) inX9 tyX9 tyX9_ok nmX9 rfl 8 (by decide) kw_1018 rfl rfl rfl rfl (Nat.le_of_ble_eq_true rfl) (rt_c9 _ rt_k6) dX9_start_12 (fun M_12 H locs eM_12 hP hS => ?_)
  replace hw := hw M_12 eM_12
  refine lv_aload_n hx hb dX9_start_15 rfl (lv_at hl 0 rfl) ?_
  refine lv_iconst (v := 0) hx hb dX9_start_16 (by decide) ?_
  refine rt_put F hP hD hS (rt_c9 _ rt_k6) (rt_l9 rt_k6) inX9 tyX9 tyX9_ok nmX9 rfl 9 (by decide) kw_1020 rfl rfl rfl rfl (Nat.le_of_ble_eq_true rfl) (rt_c9 _ rt_k6) dX9_start_17 (fun M_17 H locs eM_17 hP hS => ?_)
  replace hw := hw M_17 eM_17
  refine lv_aload_n hx hb dX9_start_20 rfl (lv_at hl 0 rfl) ?_
  refine rt_get F hP (rt_c9 _ rt_k6) (rt_l9 rt_k6) inX9 rfl 6 (by decide) kw_1015 rfl rfl dX9_start_21 ?_
  refine rt_callv (rt_runV (n := 0) (As := []) (rest := []) F hP hN hS (rt_frs hS.1) (rt_c13 _ rt_k11) (rt_l13 rt_k11) rfl (mtJx4a65c_clear_da8c8 l D cA ad hI _ 11 rt_k11 M_17 _ hw) kw_1308 kw_1305 kw_64 kw_1306 kw_1307 ⟨by decide, by decide, by decide +kernel⟩ ⟨rfl, rfl, Nat.le_of_ble_eq_true rfl, Nat.le_of_ble_eq_true rfl⟩ rfl hl.1 rfl (Nat.le_of_ble_eq_true rfl) dX9_start_24 ⟨Nat.zero_le _, Nat.zero_le _⟩) hS (fun _ h => h) (fun M_24 H locs hw hP hS _ _ => ?_)
  refine lv_iconst (v := 0) hx hb dX9_start_27 (by decide) ?_
  refine lv_istore_n (lv' := [(1, .int 0), (0, .ref (ad 6))]) hx hb dX9_start_28 rfl hl (by decide) rfl (fun ls hl => ?_)
  obtain ⟨n_, hw⟩ := hw
  exact L29 n_ 0 M_24 _ _ _ hw hP hS (lv_sub hl [1, 0] rfl)
-- ===== X12_start_
def wpX12_start_  (M : pt_M) (Q : Int32 → pt_M → Prop) : Prop :=
  wpX12_start (M 6 0) 1 M (fun (r_9 : Int32) (M_9 : pt_M) => (r_9 = 0 → wpX9_start M_9 (fun (r_23 : Int32) (M_23 : pt_M) => Q r_23 M_23)) ∧ (¬ r_9 = 0 → False))
set_option maxHeartbeats 4000000 in
set_option maxRecDepth 100000 in
theorem mtX12_start_ (l : Launch) (D : va_G) (cA : Nat → ClassId) (ad : Nat → Nat) (hI : rt_I ad) (sz : Nat) (M : pt_M) (Q : Int32 → pt_M → Prop) (hw : wpX12_start_ M Q) : Met l yX12_start_ (Cond.code yX12_start_ cX12_start_ 1 (some .int) :: lw_all) ({ frames := 10, cells := 2, slots := 33, locals := 228 } : Room) (va_Pc [.ref (ad 0)] (rt_P D cA ad sz M)) (va_Qi Q (rt_B D cA ad) (rt_fr ad sz)) 2 33 (rt_fr ad sz) := by
  refine Met.ofW (cc := cX12_start_) (maxL := 1) (ret := (some .int)) (by decide) rfl ?_
  intro p e s m args below meth c s₁ B hml hv
  obtain ⟨rfl, hsz, hP, hK, hN⟩ := hv
  have hx := B.exec
  have hb := B.bytes
  have hr := B.returns
  have hts0 := atoms_spec (ws := (Cond.code yX12_start_ cX12_start_ 1 (some .int) :: lw_all)) B.pre
  have hown : s.vm.findClass RX12 = some m.cls := findClass_of_methodNamed B.named
  have hlocks := B.notSynchronized
  subst hsz
  have F : pt_F p m c cX12_start_ 1 s _ RX12 D cA := ⟨⟨hx, hb, hml, hown, fun w h => hts0 w (List.mem_cons_of_mem _ h)⟩, hK⟩
  have hD : ∀ M, va_D (rt_fr ad s.heap.size) (rt_W cA ad M) := rt_D hI (fun k h => Or.inl ⟨k, h, rfl⟩)
  have hS : va_S (rt_fr ad s.heap.size) s.heap s.heap [] := va_S.rf
  have hl := lv_entry ([.ref (ad 0)]) (n := 1) (Nat.le_of_ble_eq_true rfl)
  rw [lg_entry_eq]
  generalize (lg_sl ([.ref (ad 0)]) ++ List.replicate (1 - (lg_sl ([.ref (ad 0)])).length) Slot.unset).toArray = ls at hl ⊢
  have hl : lv_has ls 1 [(0, .ref (ad 0))] := hl
  unfold wpX12_start_ at hw
  refine lv_aload_n hx hb dX12_start__0 rfl (lv_at hl 0 rfl) ?_
  refine lv_aload_n hx hb dX12_start__1 rfl (lv_at hl 0 rfl) ?_
  refine rt_get F hP (rt_c12 _ rt_k0) (rt_l12 rt_k0) inX12 rfl 2 (by decide) kw_1142 rfl rfl dX12_start__2 ?_
  refine rt_get F hP (rt_c9 _ rt_k6) (rt_l9 rt_k6) inX9 rfl 0 (by decide) kw_1004 rfl rfl dX12_start__5 ?_
  refine lv_iconst (v := 1) hx hb dX12_start__8 (by decide) ?_
  refine rt_calli (rt_runV (n := 2) (As := [.int (M 6 0), .int 1]) (rest := []) F hP hN hS (rt_frs hS.1) (rt_c12 _ rt_k0) (rt_l12 rt_k0) rfl (mtX12_start l D cA ad hI _ (M 6 0) 1 M _ hw) kw_1171 kw_1168 kw_60 kw_1170 kw_28 ⟨by decide, by decide, by decide +kernel⟩ ⟨rfl, rfl, Nat.le_of_ble_eq_true rfl, Nat.le_of_ble_eq_true rfl⟩ rfl hl.1 rfl (Nat.le_of_ble_eq_true rfl) dX12_start__9 ⟨Nat.zero_le _, Nat.zero_le _⟩) hS (fun _ h => h) (fun r_9 M_9 H locs hw hP hS _ _ => ?_)
  refine lv_if_eq (tgt := 19) hx hb dX12_start__12 (by decide) (fun hc12 => ?_) (fun hc12 => ?_)
  · replace hw := hw.1 hc12
    refine lv_aload_n hx hb dX12_start__19 rfl (lv_at hl 0 rfl) ?_
    refine rt_get F hP (rt_c12 _ rt_k0) (rt_l12 rt_k0) inX12 rfl 2 (by decide) kw_1142 rfl rfl dX12_start__20 ?_
    refine rt_callim (rt_runVm (n := 0) (As := []) (rest := []) F hP hN hS (rt_frs hS.1) (rt_c9 _ rt_k6) (rt_l9 rt_k6) rfl (mtX9_start l D cA ad hI _ M_9 _ hw) kw_1304 kw_1301 kw_65 kw_1302 kw_1303 ⟨by decide, by decide, by decide +kernel⟩ ⟨rfl, rfl, (Nat.le_of_ble_eq_true rfl), (Nat.le_of_ble_eq_true rfl)⟩ rfl hl.1 rfl (Nat.le_of_ble_eq_true rfl) dX12_start__23 ⟨(Nat.le_of_ble_eq_true rfl), (Nat.le_of_ble_eq_true rfl)⟩) hS (fun _ h => h) (fun r_23 M_23 H locs hw hP hS _ _ => ?_)
    refine W.widen (k := 2) (n := 33) (Nat.le_of_ble_eq_true rfl) (Nat.le_of_ble_eq_true rfl) ?_
    exact W.iret (v := r_23) hx hb hr (fun t ht hW => ⟨⟨r_23, M_23, rfl, hw, by unfold rt_B; rw [ht]; exact hP⟩, hS.F ht⟩) hS.2.2 dX12_start__26
  · replace hw := hw.2 hc12
    exact hw.elim
end
