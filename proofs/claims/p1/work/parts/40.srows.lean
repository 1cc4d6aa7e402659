theorem pt_xat {B Y : va_W} {i : Nat} {q : Nat × va_E} (h : Y[i]? = some q) : (B ++ Y)[B.length + i]? = some q := by
  rw [List.getElem?_append_right (by omega), Nat.add_sub_cancel_left]
  exact h
theorem pt_xset {B Y : va_W} {i : Nat} (q : Nat × va_E) : (B ++ Y).set (B.length + i) q = B ++ Y.set i q := by
  rw [List.set_append_right _ _ (by omega), Nat.add_sub_cancel_left]
theorem pt_xP {D : va_G} {cl : List vw_C} {B Y : va_W} {H : Heap} : va_P D cl (B ++ Y) H ↔ va_P D cl B H ∧ va_P D cl Y H := by
  constructor
  · intro h
    refine ⟨fun k q hk => h k q ?_, fun k q hk => h (B.length + k) q (pt_xat hk)⟩
    rw [List.getElem?_append_left (List.getElem?_eq_some_iff.mp hk).1]
    exact hk
  · intro h
    exact h.1.app h.2
theorem pt_xD {A : Nat → Prop} {B Y : va_W} : va_D A (B ++ Y) ↔ va_D A B ∧ va_D A Y ∧ ∀ (i j : Nat) (p q : Nat × va_E), B[i]? = some p → Y[j]? = some q → p.1 ≠ q.1 := by
  constructor
  · intro h
    have hB : ∀ {i : Nat} {p : Nat × va_E}, B[i]? = some p → (B ++ Y)[i]? = some p := fun {i p} hi => by
      rw [List.getElem?_append_left (List.getElem?_eq_some_iff.mp hi).1]
      exact hi
    refine ⟨⟨fun i j p q hi hj e => h.1 i j p q (hB hi) (hB hj) e, fun k q hk => h.2 k q (hB hk)⟩, ⟨fun i j p q hi hj e => ?_, fun k q hk => h.2 _ q (pt_xat hk)⟩, fun i j p q hi hj e => ?_⟩
    · have := h.1 _ _ p q (pt_xat hi) (pt_xat hj) e
      omega
    · have h1 := h.1 _ _ p q (hB hi) (pt_xat hj) e
      have h2 := (List.getElem?_eq_some_iff.mp hi).1
      omega
  · intro h
    exact h.1.app h.2.1 h.2.2
theorem pt_xpick {D : va_G} {cl : List vw_C} {B Y Y' : va_W} {H : Heap} (hP : va_P D cl (B ++ Y) H) (ks : List Nat) (hs : ks.map (fun i => Y[i]?) = Y'.map some) : va_P D cl (B ++ Y') H := by
  obtain ⟨h1, h2⟩ := pt_xP.mp hP
  refine pt_xP.mpr ⟨h1, fun k q hk => ?_⟩
  have h3 : (ks.map (fun i => Y[i]?))[k]? = some (some q) := by rw [hs, List.getElem?_map, hk]; rfl
  rw [List.getElem?_map] at h3
  cases hi : ks[k]? with
  | none => rw [hi] at h3; cases h3
  | some i => rw [hi] at h3; exact h2 i q (Option.some.inj h3)
theorem pt_xpickD {A : Nat → Prop} {B Y Y' : va_W} (hD : va_D A (B ++ Y)) (ks : List Nat) (hn : va_nd ks = true) (hs : ks.map (fun i => Y[i]?) = Y'.map some) : va_D A (B ++ Y') := by
  obtain ⟨h1, h2, h3⟩ := pt_xD.mp hD
  refine pt_xD.mpr ⟨h1, h2.sub ks hn hs, fun i k p q hi hk => ?_⟩
  have h4 : (ks.map (fun i => Y[i]?))[k]? = some (some q) := by rw [hs, List.getElem?_map, hk]; rfl
  rw [List.getElem?_map] at h4
  cases hj : ks[k]? with
  | none => rw [hj] at h4; cases h4
  | some j => rw [hj] at h4; exact h3 i j p q hi (Option.some.inj h4)
/-- the same addresses: the same is apart -/
theorem pt_xsame {A : Nat → Prop} {B B1 Y : va_W} (hD : va_D A (B ++ Y)) (hl : B1.length = B.length) (ha : ∀ (i : Nat) (q : Nat × va_E), B1[i]? = some q → ∃ p, B[i]? = some p ∧ p.1 = q.1) : va_D A (B1 ++ Y) := by
  obtain ⟨h1, h2, h3⟩ := pt_xD.mp hD
  refine pt_xD.mpr ⟨⟨fun i j p q hi hj e => ?_, fun k q hk => ?_⟩, h2, fun i j p q hi hj => ?_⟩
  · obtain ⟨p', a1, a2⟩ := ha i p hi
    obtain ⟨q', b1, b2⟩ := ha j q hj
    exact h1.1 i j p' q' a1 b1 (a2.trans (e.trans b2.symm))
  · obtain ⟨q', b1, b2⟩ := ha k q hk
    rw [← b2]; exact h1.2 k q' b1
  · obtain ⟨p', a1, a2⟩ := ha i p hi
    rw [← a2]
    exact h3 i j p' q a1 hj
theorem pt_W_len {cA : Nat → ClassId} {ad : Nat → Nat} {M : pt_M} : (pt_W cA ad M).length = 387 := by simp [pt_W]
theorem pt_W_inv {cA : Nat → ClassId} {ad : Nat → Nat} {M : pt_M} {k : Nat} {q : Nat × va_E} (h : (pt_W cA ad M)[k]? = some q) : k < 387 ∧ q.1 = ad k := by
  have hk : k < 387 := by
    have := (List.getElem?_eq_some_iff.mp h).1
    rwa [pt_W_len] at this
  rw [pt_W_get hk] at h
  cases h
  exact ⟨hk, rfl⟩
theorem pt_xeng {A : Nat → Prop} {cA : Nat → ClassId} {ad : Nat → Nat} {M M1 : pt_M} {Y : va_W} (hD : va_D A (pt_W cA ad M ++ Y)) : va_D A (pt_W cA ad M1 ++ Y) := by
  refine pt_xsame hD (by rw [pt_W_len, pt_W_len]) (fun i q h => ?_)
  obtain ⟨h1, h2⟩ := pt_W_inv h
  exact ⟨_, pt_W_get h1, h2.symm⟩
theorem pt_xI {A : Nat → Prop} {cA : Nat → ClassId} {ad : Nat → Nat} {M : pt_M} {Y : va_W} (hD : va_D A (pt_W cA ad M ++ Y)) : pt_I ad := by
  intro i j hi hj e
  exact (pt_xD.mp hD).1.1 i j _ _ (pt_W_get hi) (pt_W_get hj) e
theorem pt_xA {A : Nat → Prop} {cA : Nat → ClassId} {ad : Nat → Nat} {M : pt_M} {Y : va_W} (hD : va_D A (pt_W cA ad M ++ Y)) {sz : Nat} (hA : ∀ q, sz ≤ q → A q) : ∀ q, pt_fr ad sz q → A q := by
  intro q h
  rcases h with ⟨k, hk, rfl⟩ | h
  · exact (pt_xD.mp hD).1.2 k _ (pt_W_get hk)
  · exact hA q h
/-- behind a call that changed the engine's objects alone -/
theorem pt_xback {A : Nat → Prop} {D : va_G} {cA : Nat → ClassId} {ad : Nat → Nat} {M M1 : pt_M} {Y : va_W} {H H1 : Heap} (hP : va_P D pt_cl (pt_W cA ad M ++ Y) H) (hD : va_D A (pt_W cA ad M ++ Y)) (hP1 : va_P D pt_cl (pt_W cA ad M1) H1) (ho : ∀ q : Nat, q < H.size → ¬ pt_fr ad H.size q → H1[q]? = H[q]?) : va_P D pt_cl (pt_W cA ad M1 ++ Y) H1 := by
  obtain ⟨h1, h2⟩ := pt_xP.mp hP
  refine pt_xP.mpr ⟨hP1, fun k q hk => ?_⟩
  have hl := (h2 k q hk).lt
  refine (h2 k q hk).kept (ho q.1 hl (fun h => ?_))
  rcases h with ⟨j, hj, e⟩ | h
  · exact (pt_xD.mp hD).2.2 j k _ q (pt_W_get hj) hk e.symm
  · omega
theorem pt_xkeep {D : va_G} {cl : List vw_C} {ws : va_W} {H H1 : Heap} (hP : va_P D cl ws H) (ho : ∀ q : Nat, q < H.size → H1[q]? = H[q]?) : va_P D cl ws H1 := fun k q hk => (hP k q hk).kept (ho q.1 (hP k q hk).lt)
theorem pt_asg (vm : Vm) (c : ClassId) : vm.assignable c c = true := by
  show Vm.assignableAux vm (255 + 1) c c = true
  rw [Vm.assignableAux]
  simp only [beq_self_eq_true, Bool.true_or]
section PTX
variable {p : Program} {l : Launch} {e : Env} {R : Room} {s : State} {m : MethodId} {args : Array Value} {below : List Frame} {meth : Method} {c : Code} {H : Heap} {locs : List Loc} {cells slots : Nat} {Q : State → Prop}
variable {cc : ByteArray} {pc nL : Nat} {ls : Array Slot} {rest st : List Value} {D : va_G} {A : Nat → Prop} {cA : Nat → ClassId} {B Y : va_W} {H0 : Heap} {own : String} {a : Nat}
theorem pt_xild (F : pt_F p m c cc nL s args own D cA) (hP : va_P D pt_cl (B ++ Y) H) (i : Nat) {n : Nat} {f : Nat → Int32} (hy : Y[i]? = some (a, .inl (cA 0, n, .inl f))) {j : Int32} (hin : vp_in j n) (hdg : decode cc pc = .ok (.iaload, 1))
    (kk : W p l e R s m args below meth c H locs cells slots Q (F0 m (pc + 1) ls (.int (f j.toNatClampNeg) :: rest))) : W p l e R s m args below meth c H locs cells slots Q (F0 m pc ls (.int j :: .ref a :: rest)) :=
  va_iald (D := D) F.1.1 F.1.2.1 F.2 hP (B.length + i) 0 (pt_xat hy) rfl hin hdg kk
theorem pt_xist (F : pt_F p m c cc nL s args own D cA) (hP : va_P D pt_cl (B ++ Y) H) (hD : va_D A (B ++ Y)) (hS : va_S A H0 H locs) (i : Nat) {n : Nat} {f : Nat → Int32} (hy : Y[i]? = some (a, .inl (cA 0, n, .inl f))) {j x : Int32} (hin : vp_in j n) (hdg : decode cc pc = .ok (.iastore, 1)) {Y' : (Nat → Int32) → va_W} (hY : ∀ f1, Y.set i (a, .inl (cA 0, n, .inl f1)) = Y' f1)
    (kk : ∀ (f1 : Nat → Int32) (H1 : Heap) (locs1 : List Loc), f1 = upd f j.toNatClampNeg x → va_P D pt_cl (B ++ Y' f1) H1 → va_D A (B ++ Y' f1) → va_S A H0 H1 locs1 → W p l e R s m args below meth c H1 locs1 cells slots Q (F0 m (pc + 1) ls rest)) : W p l e R s m args below meth c H locs cells slots Q (F0 m pc ls (.int x :: .int j :: .ref a :: rest)) := by
  refine va_iast (D := D) F.1.1 F.1.2.1 F.2 hP hD hS (B.length + i) 0 (pt_xat hy) rfl hin hdg (fun H1 locs1 g1 g2 g3 => ?_)
  rw [pt_xset, hY] at g1 g2
  exact kk _ H1 locs1 rfl g1 g2 g3
theorem pt_xlen (F : pt_F p m c cc nL s args own D cA) (hP : va_P D pt_cl (B ++ Y) H) (i : Nat) {n : Nat} {f : Nat → Int32} (hy : Y[i]? = some (a, .inl (cA 0, n, .inl f))) (hdg : decode cc pc = .ok (.arraylength, 1))
    (kk : W p l e R s m args below meth c H locs cells slots Q (F0 m (pc + 1) ls (.int (Int32.ofNat n) :: rest))) : W p l e R s m args below meth c H locs cells slots Q (F0 m pc ls (.ref a :: rest)) :=
  va_alen (D := D) F.1.1 F.1.2.1 F.2 hP (B.length + i) 0 (x := (n, .inl f)) (pt_xat hy) rfl rfl hdg kk
theorem pt_xnew (F : pt_F p m c cc nL s args own D cA) (hP : va_P D pt_cl (B ++ Y) H) (hD : va_D A (B ++ Y)) (hS : va_S A H0 H locs) (hA : ∀ q, H0.size ≤ q → A q) (harr : Cond.arrayClass .int ∈ lw_all) {n : Int32} {N : Nat} (hn : ¬ n < 0) (hN : n.toNatClampNeg = N) (hb : N ≤ 64) (hcells : cells + 1 ≤ R.cells) (hslots : slots + N ≤ R.slots) (hdg : decode cc pc = .ok (.newarray .int, 2))
    (kk : ∀ (q : Nat) (H1 : Heap), va_P D pt_cl (B ++ (Y ++ [(q, .inl (cA 0, N, .inl (fun _ => 0)))])) H1 → va_D A (B ++ (Y ++ [(q, .inl (cA 0, N, .inl (fun _ => 0)))])) → va_S A H0 H1 locs →
      W p l e R s m args below meth c H1 locs (cells + 1) (slots + N) Q (F0 m (pc + 2) ls (.ref q :: rest))) : W p l e R s m args below meth c H locs cells slots Q (F0 m pc ls (.int n :: rest)) := by
  refine va_newa (D := D) (ty := .int) (atype := .int) (a0 := (N, .inl (fun _ => 0))) F.1.1 F.1.2.1 (F.1.2.2.2.2 _ harr) rfl F.2 hP hD hS hA (fun _ => rfl) hn hN (by show N * 4 ≤ 536870912; omega) hcells hslots hdg (fun q cB H1 g1 g2 g3 g4 => ?_)
  have e1 := (g1.2 7 (cB, .int) rfl).2
  have e2 := (F.2.2 0 (cA 0, .int) rfl).2
  have e : cB = cA 0 := Option.some.inj (e1.symm.trans e2)
  subst e
  rw [List.append_assoc] at g2 g3
  exact kk q H1 g2 g3 g4
end PTX
/-! ROWS FOR CONSTRUCTORS: the world is B and behind it a written list Y of cells, objects among them; and a world as a set of cells. -/
theorem pt_vP {D : va_G} {cl : List vw_C} {ws : va_W} {H : Heap} : va_P D cl ws H ↔ ∀ q ∈ ws, va_at D cl q H := by
  constructor
  · intro h q hq
    obtain ⟨k, hk⟩ := List.getElem?_of_mem hq
    exact h k q hk
  · intro h k q hk
    exact h q (List.mem_of_getElem? hk)
theorem pt_nd {l : List Nat} : l.Nodup ↔ ∀ (i j a : Nat), l[i]? = some a → l[j]? = some a → i = j := by
  constructor
  · intro h i j a hi hj
    have h1 := (List.getElem?_eq_some_iff.mp hi).1
    exact (List.getElem?_inj h1 h).mp (hi.trans hj.symm)
  · intro h
    show List.Pairwise (· ≠ ·) l
    rw [List.pairwise_iff_getElem]
    intro i j hi hj hij e
    have := h i j _ (List.getElem?_eq_getElem hi) (by rw [List.getElem?_eq_getElem hj, e])
    omega
theorem pt_vD {A : Nat → Prop} {ws : va_W} : va_D A ws ↔ (ws.map (·.1)).Nodup ∧ ∀ q ∈ ws, A q.1 := by
  constructor
  · intro h
    refine ⟨pt_nd.mpr (fun i j a hi hj => ?_), fun q hq => ?_⟩
    · rw [List.getElem?_map] at hi hj
      cases h1 : ws[i]? with
      | none => rw [h1] at hi; cases hi
      | some p =>
        cases h2 : ws[j]? with
        | none => rw [h2] at hj; cases hj
        | some q =>
          rw [h1] at hi; rw [h2] at hj
          exact h.1 i j p q h1 h2 ((Option.some.inj hi).trans (Option.some.inj hj).symm)
    · obtain ⟨k, hk⟩ := List.getElem?_of_mem hq
      exact h.2 k q hk
  · intro h
    refine ⟨fun i j p q hi hj e => pt_nd.mp h.1 i j p.1 (by rw [List.getElem?_map, hi]; rfl) (by rw [List.getElem?_map, hj, e]; rfl), fun k q hk => h.2 q (List.mem_of_getElem? hk)⟩
theorem pt_permP {D : va_G} {cl : List vw_C} {ws ws' : va_W} {H : Heap} (h : va_P D cl ws H) (hp : List.Perm ws ws') : va_P D cl ws' H := pt_vP.mpr (fun q hq => pt_vP.mp h q (hp.mem_iff.mpr hq))
theorem pt_permD {A : Nat → Prop} {ws ws' : va_W} (h : va_D A ws) (hp : List.Perm ws ws') : va_D A ws' := pt_vD.mpr ⟨(hp.map _).nodup_iff.mp (pt_vD.mp h).1, fun q hq => (pt_vD.mp h).2 q (hp.mem_iff.mpr hq)⟩
/-- behind a call over the cell x, the caller's last: its cells W1 come in its place -/
theorem pt_ctW {A : Nat → Prop} {D : va_G} {cl : List vw_C} {Z W1 : va_W} {x : Nat × va_E} {H H1 : Heap} (hP : va_P D cl (Z ++ [x]) H) (hD : va_D A (Z ++ [x])) (hP1 : va_P D cl W1 H1) (hD1 : va_D (fun q => q = x.1 ∨ H.size ≤ q) W1) (ho : ∀ q : Nat, q < H.size → ¬ (q = x.1 ∨ H.size ≤ q) → H1[q]? = H[q]?) (hA : ∀ q, H.size ≤ q → A q) : va_P D cl (Z ++ W1) H1 ∧ va_D A (Z ++ W1) := by
  obtain ⟨h1, h2⟩ := pt_xP.mp hP
  obtain ⟨d1, d2, d3⟩ := pt_xD.mp hD
  have hx : A x.1 := d2.2 0 x rfl
  refine ⟨pt_xP.mpr ⟨fun k q hk => ?_, hP1⟩, pt_xD.mpr ⟨d1, hD1.weaken (fun k q _ h => ?_), fun i j p q hi hj e => ?_⟩⟩
  · have hl := (h1 k q hk).lt
    exact (h1 k q hk).kept (ho q.1 hl (fun h => by rcases h with h | h; exact d3 k 0 q x hk rfl h; omega))
  · rcases h with h | h
    · rw [h]; exact hx
    · exact hA _ h
  · have hl := (h1 i p hi).lt
    rcases hD1.2 j q hj with h | h
    · exact d3 i 0 p x hi rfl (e.trans h)
    · omega
theorem pt_ffun {n : Nat} {cB : ClassId} {f g : Nat → Int32} (h : ∀ i, i < n → f i = g i) : vp_cell cB (n, .inl f) = vp_cell cB (n, .inl g) := by
  rw [vp_cell_i, vp_cell_i]
  unfold arrV
  congr 1
  apply Array.ext (by simp)
  intro i h1 h2
  have h3 : i < n := by simpa using h1
  simp [h i h3]
section PTK
variable {p : Program} {l : Launch} {e : Env} {R : Room} {s : State} {m : MethodId} {args : Array Value} {below : List Frame} {meth : Method} {c : Code} {H : Heap} {locs : List Loc} {cells slots : Nat} {Q : State → Prop}
variable {cc : ByteArray} {pc nL : Nat} {ls : Array Slot} {rest st : List Value} {D : va_G} {A : Nat → Prop} {cA : Nat → ClassId} {B Y : va_W} {H0 : Heap} {own : String} {a : Nat}
theorem pt_yget (F : pt_F p m c cc nL s args own D cA) (hP : va_P D pt_cl (B ++ Y) H) (i : Nat) {ci : Nat} {fs : List Value} (hy : Y[i]? = some (a, .inr (ci, fs))) {C ref : String} {T : u_T} {N index : Nat} (hin : ∀ w ∈ u_ws C T N, w ∈ lw_all) (hcl : pt_cl[ci]? = some (C, T, N)) (j : Nat) (hj : j < N) (hlink : Cond.fieldLink own index ref (T j).2.1 (T j).2.2.1 ∈ lw_all) (hsame : (T j).1 = ref) {v : Value} (hv : fs[j]? = some v) (hdg : decode cc pc = .ok (.getfield index, 3))
    (kk : W p l e R s m args below meth c H locs cells slots Q (F0 m (pc + 3) ls (v :: rest))) : W p l e R s m args below meth c H locs cells slots Q (F0 m pc ls (.ref a :: rest)) :=
  va_get (D := D) (ci := ci) F.1.1 F.1.2.1 F.1.2.2.2.2 hin F.1.2.2.2.1 F.2 hP (B.length + i) (pt_xat hy) hcl j hj (F.1.2.2.2.2 _ hlink) (fun x h => by rw [← hsame]; exact h) hv hdg kk
theorem pt_yput (F : pt_F p m c cc nL s args own D cA) (hP : va_P D pt_cl (B ++ Y) H) (hD : va_D A (B ++ Y)) (hS : va_S A H0 H locs) (i : Nat) {ci : Nat} {fs : List Value} (hy : Y[i]? = some (a, .inr (ci, fs))) {C ref : String} {T : u_T} {N index : Nat} (hin : ∀ w ∈ u_ws C T N, w ∈ lw_all) (ty0 : Nat → FieldType) (hty : ∀ k, k < N → parseFieldDescriptor (T k).2.2.1 = some (ty0 k)) (hnm : ∀ a, a < N → ∀ b, b < N → a ≠ b → (T a).2.1 ≠ (T b).2.1) (hcl : pt_cl[ci]? = some (C, T, N)) (j : Nat) (hj : j < N) (hlink : Cond.fieldLink own index ref (T j).2.1 (T j).2.2.1 ∈ lw_all) (hsame : (T j).1 = ref) (hfin : (T j).2.2.2 = false) {v : Value} (hn : narrow (ty0 j) v = v) (hfit : fits (ty0 j) v = true) (hl : j < fs.length) {Y' : va_W} (hY : Y.set i (a, .inr (ci, fs.set j v)) = Y') (hdg : decode cc pc = .ok (.putfield index, 3))
    (kk : ∀ (H1 : Heap) (locs1 : List Loc), va_P D pt_cl (B ++ Y') H1 → va_D A (B ++ Y') → va_S A H0 H1 locs1 → W p l e R s m args below meth c H1 locs1 cells slots Q (F0 m (pc + 3) ls rest)) : W p l e R s m args below meth c H locs cells slots Q (F0 m pc ls (v :: .ref a :: rest)) := by
  refine va_put (D := D) (ci := ci) (ty := ty0 j) F.1.1 F.1.2.1 F.1.2.2.2.2 hin ty0 hty hnm F.1.2.2.2.1 F.2 hP hD hS (B.length + i) (fs := fs) (pt_xat hy) hcl j hj (F.1.2.2.2.2 _ hlink) (fun x h => by rw [← hsame]; exact h) hfin (hty j hj) hn hfit hl hdg (fun H1 locs1 g1 g2 g3 => ?_)
  rw [pt_xset, hY] at g1 g2
  exact kk H1 locs1 g1 g2 g3
theorem pt_yputF (F : pt_F p m c cc nL s args own D cA) (hP : va_P D pt_cl (B ++ Y) H) (hD : va_D A (B ++ Y)) (hS : va_S A H0 H locs) (hin2 : meth.name = "<init>") (i : Nat) {ci : Nat} {fs : List Value} (hy : Y[i]? = some (a, .inr (ci, fs))) {C ref : String} {T : u_T} {N index : Nat} (hin : ∀ w ∈ u_ws C T N, w ∈ lw_all) (ty0 : Nat → FieldType) (hty : ∀ k, k < N → parseFieldDescriptor (T k).2.2.1 = some (ty0 k)) (hnm : ∀ a, a < N → ∀ b, b < N → a ≠ b → (T a).2.1 ≠ (T b).2.1) (hcl : pt_cl[ci]? = some (C, T, N)) (j : Nat) (hj : j < N) (hlink : Cond.fieldLink own index ref (T j).2.1 (T j).2.2.1 ∈ lw_all) (hsame : (T j).1 = ref) (hfin : (T j).2.2.2 = true) (hdecl : (T j).1 = own) {v : Value} (hn : narrow (ty0 j) v = v) (hfit : fits (ty0 j) v = true) (hl : j < fs.length) {Y' : va_W} (hY : Y.set i (a, .inr (ci, fs.set j v)) = Y') (hdg : decode cc pc = .ok (.putfield index, 3))
    (kk : ∀ (H1 : Heap) (locs1 : List Loc), va_P D pt_cl (B ++ Y') H1 → va_D A (B ++ Y') → va_S A H0 H1 locs1 → W p l e R s m args below meth c H1 locs1 cells slots Q (F0 m (pc + 3) ls rest)) : W p l e R s m args below meth c H locs cells slots Q (F0 m pc ls (v :: .ref a :: rest)) := by
  refine va_putF (D := D) (ci := ci) (ty := ty0 j) F.1.1 F.1.2.1 F.1.2.2.2.2 hin ty0 hty hnm F.1.2.2.2.1 F.2 hP hD hS (B.length + i) (fs := fs) (pt_xat hy) hcl j hj (F.1.2.2.2.2 _ hlink) (fun x h => by rw [← hsame]; exact h) hfin hin2 hdecl (hty j hj) hn hfit hl hdg (fun H1 locs1 g1 g2 g3 => ?_)
  rw [pt_xset, hY] at g1 g2
  exact kk H1 locs1 g1 g2 g3
theorem pt_ynew (F : pt_F p m c cc nL s args own D cA) (hP : va_P D pt_cl (B ++ Y) H) (hD : va_D A (B ++ Y)) (hS : va_S A H0 H locs) (hA : ∀ q, H0.size ≤ q → A q) {C : String} {T : u_T} {N index ci : Nat} (hin : ∀ w ∈ u_ws C T N, w ∈ lw_all) (ty : Nat → FieldType) (hty : ∀ k, k < N → parseFieldDescriptor (T k).2.2.1 = some (ty k)) (hlink : Cond.classLink own index C ∈ lw_all) (hinst : Cond.instantiable C N ∈ lw_all) (hini : Cond.initialized C ∈ lw_all) (hc : pt_cl[ci]? = some (C, T, N)) {fs : List Value} (hfs : ∀ j, j < N → defaultValue (ty j) = vp_V fs j) (hcells : cells + 1 ≤ R.cells) (hslots : slots + N ≤ R.slots) (hdg : decode cc pc = .ok (.new index, 3))
    (kk : ∀ (q : Nat) (H1 : Heap), va_P D pt_cl (B ++ (Y ++ [(q, .inr (ci, fs))])) H1 → va_D A (B ++ (Y ++ [(q, .inr (ci, fs))])) → va_S A H0 H1 locs →
      W p l e R s m args below meth c H1 locs (cells + 1) (slots + N) Q (F0 m (pc + 3) ls (.ref q :: rest))) : W p l e R s m args below meth c H locs cells slots Q (F0 m pc ls rest) := by
  refine va_new (D := D) F.1.1 F.1.2.1 F.1.2.2.2.2 hin ty hty F.1.2.2.2.1 (F.1.2.2.2.2 _ hlink) (F.1.2.2.2.2 _ hinst) (F.1.2.2.2.2 _ hini) F.2 hP hD hS hA hc hfs hcells hslots hdg (fun q H1 g1 g2 g3 => ?_)
  rw [List.append_assoc] at g1 g2
  exact kk q H1 g1 g2 g3
theorem pt_ynewq (F : pt_F p m c cc nL s args own D cA) (hP : va_P D pt_cl (B ++ Y) H) (hD : va_D A (B ++ Y)) (hS : va_S A H0 H locs) (hA : ∀ q, H0.size ≤ q → A q) (t : Nat) {C : String} {index : Nat} (ht : (pt_T cA)[t]? = some (cA t, .object C)) (hlink : Cond.classLink own index C ∈ lw_all) (hover : Cond.arrayOver (.object C) ∈ lw_all) {n : Int32} {N : Nat} (hn : ¬ n < 0) (hN : n.toNatClampNeg = N) (hb : N ≤ 64) (hcells : cells + 1 ≤ R.cells) (hslots : slots + N ≤ R.slots) (hdg : decode cc pc = .ok (.anewarray index, 3))
    (kk : ∀ (q : Nat) (H1 : Heap), va_P D pt_cl (B ++ (Y ++ [(q, .inl (cA t, N, .inr (.inr (.inr (.inr (fun _ => none))))))])) H1 → va_D A (B ++ (Y ++ [(q, .inl (cA t, N, .inr (.inr (.inr (.inr (fun _ => none))))))])) → va_S A H0 H1 locs →
      W p l e R s m args below meth c H1 locs (cells + 1) (slots + N) Q (F0 m (pc + 3) ls (.ref q :: rest))) : W p l e R s m args below meth c H locs cells slots Q (F0 m pc ls (.int n :: rest)) := by
  refine va_newq (D := D) F.1.1 F.1.2.1 F.1.2.2.2.1 (F.1.2.2.2.2 _ hlink) (va_AO.of (F.1.2.2.2.2 _ hover)) F.2 hP hD hS hA hn hN (by omega) hcells hslots hdg (fun q cB H1 g1 g2 g3 g4 => ?_)
  obtain ⟨-, -, -, -, -, e1⟩ := (g1.2 7 (cB, .object C) rfl).2
  obtain ⟨-, -, -, -, -, e2⟩ := (F.2.2 t (cA t, .object C) ht).2
  have e : cB = cA t := Option.some.inj (e1.symm.trans e2)
  subst e
  rw [List.append_assoc] at g2 g3
  exact kk q H1 g2 g3 g4
theorem pt_yast (F : pt_F p m c cc nL s args own D cA) (hP : va_P D pt_cl (B ++ Y) H) (hD : va_D A (B ++ Y)) (hS : va_S A H0 H locs) (t : Nat) (i i2 : Nat) {n : Nat} {g : Nat → Option Nat} (hy : Y[i]? = some (a, .inl (cA t, n, .inr (.inr (.inr (.inr g)))))) {v ci : Nat} {vs : List Value} {r : vw_C} (hy2 : Y[i2]? = some (v, .inr (ci, vs))) (hc : pt_cl[ci]? = some r) (ht : (pt_T cA)[t]? = some (cA t, .object r.1)) {j : Int32} (hin : vp_in j n) (hdg : decode cc pc = .ok (.aastore, 1)) {Y' : (Nat → Option Nat) → va_W} (hY : ∀ f1, Y.set i (a, .inl (cA t, n, .inr (.inr (.inr (.inr f1))))) = Y' f1)
    (kk : ∀ (g1 : Nat → Option Nat) (H1 : Heap) (locs1 : List Loc), g1 = va_up g j.toNatClampNeg (some v) → va_P D pt_cl (B ++ Y' g1) H1 → va_D A (B ++ Y' g1) → va_S A H0 H1 locs1 → W p l e R s m args below meth c H1 locs1 cells slots Q (F0 m (pc + 1) ls rest)) : W p l e R s m args below meth c H locs cells slots Q (F0 m pc ls (.ref v :: .int j :: .ref a :: rest)) := by
  refine va_astq (D := D) F.1.1 F.1.2.1 F.2 hP hD hS (B.length + i) t (B.length + i2) ci (pt_xat hy) ht (pt_xat hy2) hc hin hdg (fun H1 locs1 g1 g2 g3 => ?_)
  rw [pt_xset, hY] at g1 g2
  exact kk _ H1 locs1 rfl g1 g2 g3
theorem pt_ylen (F : pt_F p m c cc nL s args own D cA) (hP : va_P D pt_cl (B ++ Y) H) (t i : Nat) {n : Nat} {x : (Nat → Int32) ⊕ (Nat → Int64) ⊕ (Nat → UInt32) ⊕ (Nat → UInt64) ⊕ (Nat → Option Nat)} {ty : FieldType} (ht : (pt_T cA)[t]? = some (cA t, ty)) (hy : Y[i]? = some (a, .inl (cA t, n, x))) (hdg : decode cc pc = .ok (.arraylength, 1))
    (kk : W p l e R s m args below meth c H locs cells slots Q (F0 m (pc + 1) ls (.int (Int32.ofNat n) :: rest))) : W p l e R s m args below meth c H locs cells slots Q (F0 m pc ls (.ref a :: rest)) :=
  va_alen (D := D) F.1.1 F.1.2.1 F.2 hP (B.length + i) t (x := (n, x)) (pt_xat hy) ht rfl hdg kk
/-- a constructor's start and end -/
def pt_KP (D : va_G) (cA : Nat → ClassId) (sz : Nat) (x : Nat × va_E) : State → Prop := fun U => U.heap.size = sz ∧ va_P D pt_cl [x] U.heap ∧ va_K D pt_cl (pt_T cA) U
def pt_KB (D : va_G) (a sz : Nat) {S : Type} (W1 : S → va_W) : S → State → Prop := fun u t => va_P D pt_cl (W1 u) t.heap ∧ va_D (fun q => q = a ∨ sz ≤ q) (W1 u)
abbrev pt_KA (a sz : Nat) : Nat → Prop := fun q => q = a ∨ sz ≤ q
theorem pt_kblind {D : va_G} {cA : Nat → ClassId} {sz : Nat} {x : Nat × va_E} {As : List Value} : FrameBlind (va_Pc As (pt_KP D cA sz x)) := fun a U g mk q => ⟨q.1, q.2.1, q.2.2.1, va_K.moved (u := U) (U := U.calling g mk a) (Vm.Alike.refl U.vm) q.2.2.2⟩
theorem pt_kpay {y : MethodName} {bytes : ByteArray} {maxL : Nat} {ret : Option FieldType} (F : pt_F p m c cc nL s args own D cA) (h1 : Cond.code y bytes maxL ret ∈ lw_all) : ∀ w ∈ (Cond.code y bytes maxL ret :: lw_all), ∀ (a' : Array Value) (U : State), s.WarmedH U.vm → w.before a' U = true := by
  intro w hw a' U hW
  rcases List.mem_cons.mp hw with rfl | hw
  · exact pt_pay F.1.2.2.2.2 _ h1 a' U hW
  · exact pt_pay F.1.2.2.2.2 _ hw a' U hW
theorem pt_kn {y : MethodName} {n : Nat} (hd : (parseMethodDescriptor y.desc).map (fun d => d.parameters.length) = some n) : ∀ sig, parseMethodDescriptor y.desc = some sig → n = sig.parameters.length := fun sig h => by
  rw [h] at hd
  exact (Option.some.inj hd).symm
/-- a constructor is run: within the package, or a nest mate's private one -/
theorem pt_krun (F : pt_F p m c cc nL s args own D cA) {b : Nat} {As : List Value} {y : MethodName} {bytes : ByteArray} {maxL index n : Nat} {rm : Room} {PU : State → Prop} {Qc : Array Value → State → Outcome → State → Prop} {free : Addr → Prop} {mc ms : Nat}
    (hM : Met l y (Cond.code y bytes maxL none :: lw_all) rm (va_Pc (.ref b :: As) PU) Qc mc ms free) (hbl : FrameBlind (va_Pc (.ref b :: As) PU)) (hp : ∀ U : State, U.heap = H → s.WarmedH U.vm → PU U) (h1 : Cond.code y bytes maxL none ∈ lw_all) (h2 : Cond.methodLink own index y ∈ lw_all ∨ ∃ host, Cond.methodLinkNest own index y host ∈ lw_all) (h5 : Cond.initialized y.cls ∈ lw_all) (h3 : Cond.instanceMethod y ∈ lw_all) (hy1 : y.name = "<init>") (hd : y.cls ≠ "java/lang/invoke/MethodHandle" ∧ y.cls ≠ "java/lang/invoke/VarHandle" ∧ (parseMethodDescriptor y.desc).map (fun d => d.parameters.length) = some n) (hrm : rm.cells = mc ∧ rm.slots = ms ∧ rm.frames + 1 ≤ R.frames ∧ 8 + (maxL + 11) + rm.locals ≤ R.locals)
    (hn : As.length = n) (hsz : ls.size = nL) (hst : st = As.reverse ++ .ref b :: rest) (hW : (rest.map fun v => v.category).sum ≤ 8) (hdg : decode cc pc = .ok (.invokespecial index, 3)) (hcs : cells + mc ≤ R.cells ∧ slots + ms ≤ R.slots) :
    va_Run p l e R s m args below meth c H locs cells slots mc ms (F0 m pc ls st) rest (Qc (Value.ref b :: As).toArray) free := by
  have hts := F.1.2.2.2.2
  rcases h2 with h2 | ⟨host, h2⟩
  · exact va_runI (As := As) (rest := rest) F.1 hM ⟨⟨hrm.1, hrm.2.1, hrm.2.2.1, hrm.2.2.2, pt_kpay F h1, List.mem_cons_self, hts _ h1, hts _ h5, ⟨hd.1, hd.2.1⟩, pt_kn hd.2.2, hts _ h2⟩, hy1, hts _ h3⟩ ⟨hbl, fun U hU hW => ⟨rfl, hp U hU hW⟩⟩ rfl hn hsz hst (lv_room hW) hdg hcs
  · exact va_runIN (As := As) (rest := rest) F.1 hM ⟨⟨⟨hrm.1, hrm.2.1, hrm.2.2.1, hrm.2.2.2, pt_kpay F h1, List.mem_cons_self⟩, hts _ h1, hts _ h5, ⟨hd.1, hd.2.1⟩, pt_kn hd.2.2, hts _ h2⟩, hy1, hts _ h3⟩ ⟨hbl, fun U hU hW => ⟨rfl, hp U hU hW⟩⟩ rfl hn hsz hst (lv_room hW) hdg hcs
theorem pt_kcall {S : Type} {post : S → Prop} {W1 : S → va_W} {a : Array Value} {x : Nat × va_E} {mc ms : Nat} (hr : va_Run p l e R s m args below meth c H locs cells slots mc ms (F0 m pc ls st) rest (va_Qv post (pt_KB D x.1 H.size W1) (pt_KA x.1 H.size) a) (pt_KA x.1 H.size)) (hP : va_P D pt_cl (B ++ (Y ++ [x])) H) (hD : va_D A (B ++ (Y ++ [x]))) (hS : va_S A H0 H locs) (hA : ∀ q, H0.size ≤ q → A q)
    (kk : ∀ (u : S) (H1 : Heap) (locs1 : List Loc), post u → va_P D pt_cl (B ++ (Y ++ W1 u)) H1 → va_D A (B ++ (Y ++ W1 u)) → va_S A H0 H1 locs1 → W p l e R s m args below meth c H1 locs1 (cells + mc) (slots + ms) Q (F0 m (pc + 3) ls rest)) : W p l e R s m args below meth c H locs cells slots Q (F0 m pc ls st) := by
  rw [← List.append_assoc] at hP hD
  have hx : A x.1 := (pt_xD.mp hD).2.1.2 0 x rfl
  have hA1 : ∀ q, H.size ≤ q → A q := fun q h => hA q (Nat.le_trans hS.1 h)
  have hA2 : ∀ q, pt_KA x.1 H.size q → A q := fun q h => by
    rcases h with h | h
    · rw [h]; exact hx
    · exact hA1 q h
  refine va_callv hr hS (fun q _ h => hA2 q h) hA2 (fun u t H1 locs1 ht _ hq hB hz ho hS1 => ?_)
  unfold pt_KB at hB
  rw [ht] at hB
  obtain ⟨g1, g2⟩ := pt_ctW hP hD hB.1 hB.2 ho hA1
  rw [List.append_assoc] at g1 g2
  exact kk u H1 locs1 hq g1 g2 hS1
theorem pt_kcall0 {a : Array Value} (hr : va_Run p l e R s m args below meth c H locs cells slots 0 0 (F0 m pc ls st) rest (va_Qv (fun _ : Unit => True) (fun _ _ => True) (fun _ => False) a) (fun _ => False)) (hP : va_P D pt_cl (B ++ Y) H) (hS : va_S A H0 H locs)
    (kk : ∀ (H1 : Heap) (locs1 : List Loc), va_P D pt_cl (B ++ Y) H1 → va_S A H0 H1 locs1 → W p l e R s m args below meth c H1 locs1 cells slots Q (F0 m (pc + 3) ls rest)) : W p l e R s m args below meth c H locs cells slots Q (F0 m pc ls st) :=
  va_callv hr hS (fun _ _ h => h.elim) (fun _ h => h.elim) (fun u t H1 locs1 ht _ hq hB hz ho hS1 => kk H1 locs1 (pt_xkeep hP (fun q h => ho q h id)) hS1)
end PTK
/-- a straight walk's start and end: the world Y alone, and what the statics hold -/
def sx_P (D : va_G) (cA : Nat → ClassId) (x y sz : Nat) (Y : va_W) : State → Prop := fun U => U.heap.size = sz ∧ va_P D pt_cl Y U.heap ∧ va_D (va_A Y sz) Y ∧ va_K D pt_cl (pt_T cA) U ∧ rt_Zs x y (va_A Y sz) U U.heap
def sx_B (D : va_G) (Y : va_W) (sz : Nat) {S : Type} (W1 : S → va_W) : S → State → Prop := fun u t => va_P D pt_cl (W1 u) t.heap ∧ va_D (va_A Y sz) (W1 u)
theorem sx_blind {D : va_G} {cA : Nat → ClassId} {x y sz : Nat} {Y : va_W} {As : List Value} : FrameBlind (va_Pc As (sx_P D cA x y sz Y)) := fun a U g mk q => ⟨q.1, q.2.1, q.2.2.1, q.2.2.2.1, va_K.moved (u := U) (U := U.calling g mk a) (Vm.Alike.refl U.vm) q.2.2.2.2.1, rt_Zs.moved (u := U) (U := U.calling g mk a) (Vm.Alike.refl U.vm) q.2.2.2.2.2⟩
theorem sx_fm {ws wc : va_W} {isC : List Nat} (hC : isC.map (fun i => ws[i]?) = wc.map some) : isC.filterMap (fun i => ws[i]?) = wc := by
  have h := congrArg (List.filterMap id) hC
  rw [List.filterMap_map, List.filterMap_map] at h
  simpa [Function.comp_def] using h
section SXR
variable {p : Program} {l : Launch} {e : Env} {R : Room} {s : State} {m : MethodId} {args : Array Value} {below : List Frame} {meth : Method} {c : Code} {H : Heap} {locs : List Loc} {cells slots : Nat} {Q : State → Prop}
variable {cc : ByteArray} {pc nL : Nat} {ls : Array Slot} {rest st : List Value} {D : va_G} {A : Nat → Prop} {cA : Nat → ClassId} {B Y : va_W} {H0 : Heap} {own : String} {a : Nat}
theorem sx_get (F : pt_F p m c cc nL s args own D cA) (hP : va_P D pt_cl (B ++ Y) H) (i : Nat) {ci : Nat} {fs : List Value} (hy : Y[i]? = some (a, .inr (ci, fs))) {C ref : String} {T : u_T} {N index : Nat} (hin : ∀ w ∈ u_ws C T N, w ∈ lw_all) (hcl : pt_cl[ci]? = some (C, T, N)) (j : Nat) (hj : j < N) (hlink : Cond.fieldLink own index ref (T j).2.1 (T j).2.2.1 ∈ lw_all) (hsame : (T j).1 = ref) {v : Value} (hv : fs[j]? = some v) (hdg : decode cc pc = .ok (.getfield index, 3))
    (kk : W p l e R s m args below meth c H locs cells slots Q (F0 m (pc + 3) ls (v :: rest))) : W p l e R s m args below meth c H locs cells slots Q (F0 m pc ls (.ref a :: rest)) :=
  va_get (D := D) (ci := ci) F.1.1 F.1.2.1 F.1.2.2.2.2 hin F.1.2.2.2.1 F.2 hP (B.length + i) (pt_xat hy) hcl j hj (F.1.2.2.2.2 _ hlink) (fun x h => by rw [← hsame]; exact h) hv hdg kk
theorem sx_put (F : pt_F p m c cc nL s args own D cA) (hP : va_P D pt_cl (B ++ Y) H) (hD : va_D A (B ++ Y)) (hS : va_S A H0 H locs) (i : Nat) {ci : Nat} {fs : List Value} (hy : Y[i]? = some (a, .inr (ci, fs))) {C ref : String} {T : u_T} {N index : Nat} (hin : ∀ w ∈ u_ws C T N, w ∈ lw_all) (ty0 : Nat → FieldType) (hty : ∀ k, k < N → parseFieldDescriptor (T k).2.2.1 = some (ty0 k)) (hnm : ∀ a, a < N → ∀ b, b < N → a ≠ b → (T a).2.1 ≠ (T b).2.1) (hcl : pt_cl[ci]? = some (C, T, N)) (j : Nat) (hj : j < N) (hlink : Cond.fieldLink own index ref (T j).2.1 (T j).2.2.1 ∈ lw_all) (hsame : (T j).1 = ref) (hfin : (T j).2.2.2 = false) {v : Value} (hn : narrow (ty0 j) v = v) (hfit : fits (ty0 j) v = true) (hl : j < fs.length) {Y' : va_W} (hY : Y.set i (a, .inr (ci, fs.set j v)) = Y') (hdg : decode cc pc = .ok (.putfield index, 3))
    (kk : ∀ (H1 : Heap) (locs1 : List Loc), va_P D pt_cl (B ++ Y') H1 → va_D A (B ++ Y') → va_S A H0 H1 locs1 → W p l e R s m args below meth c H1 locs1 cells slots Q (F0 m (pc + 3) ls rest)) : W p l e R s m args below meth c H locs cells slots Q (F0 m pc ls (v :: .ref a :: rest)) := by
  refine va_put (D := D) (ci := ci) (ty := ty0 j) F.1.1 F.1.2.1 F.1.2.2.2.2 hin ty0 hty hnm F.1.2.2.2.1 F.2 hP hD hS (B.length + i) (fs := fs) (pt_xat hy) hcl j hj (F.1.2.2.2.2 _ hlink) (fun x h => by rw [← hsame]; exact h) hfin (hty j hj) hn hfit hl hdg (fun H1 locs1 g1 g2 g3 => ?_)
  rw [pt_xset, hY] at g1 g2
  exact kk H1 locs1 g1 g2 g3
theorem sx_putF (F : pt_F p m c cc nL s args own D cA) (hP : va_P D pt_cl (B ++ Y) H) (hD : va_D A (B ++ Y)) (hS : va_S A H0 H locs) (hin2 : meth.name = "<init>") (i : Nat) {ci : Nat} {fs : List Value} (hy : Y[i]? = some (a, .inr (ci, fs))) {C ref : String} {T : u_T} {N index : Nat} (hin : ∀ w ∈ u_ws C T N, w ∈ lw_all) (ty0 : Nat → FieldType) (hty : ∀ k, k < N → parseFieldDescriptor (T k).2.2.1 = some (ty0 k)) (hnm : ∀ a, a < N → ∀ b, b < N → a ≠ b → (T a).2.1 ≠ (T b).2.1) (hcl : pt_cl[ci]? = some (C, T, N)) (j : Nat) (hj : j < N) (hlink : Cond.fieldLink own index ref (T j).2.1 (T j).2.2.1 ∈ lw_all) (hsame : (T j).1 = ref) (hfin : (T j).2.2.2 = true) (hdecl : (T j).1 = own) {v : Value} (hn : narrow (ty0 j) v = v) (hfit : fits (ty0 j) v = true) (hl : j < fs.length) {Y' : va_W} (hY : Y.set i (a, .inr (ci, fs.set j v)) = Y') (hdg : decode cc pc = .ok (.putfield index, 3))
    (kk : ∀ (H1 : Heap) (locs1 : List Loc), va_P D pt_cl (B ++ Y') H1 → va_D A (B ++ Y') → va_S A H0 H1 locs1 → W p l e R s m args below meth c H1 locs1 cells slots Q (F0 m (pc + 3) ls rest)) : W p l e R s m args below meth c H locs cells slots Q (F0 m pc ls (v :: .ref a :: rest)) := by
  refine va_putF (D := D) (ci := ci) (ty := ty0 j) F.1.1 F.1.2.1 F.1.2.2.2.2 hin ty0 hty hnm F.1.2.2.2.1 F.2 hP hD hS (B.length + i) (fs := fs) (pt_xat hy) hcl j hj (F.1.2.2.2.2 _ hlink) (fun x h => by rw [← hsame]; exact h) hfin hin2 hdecl (hty j hj) hn hfit hl hdg (fun H1 locs1 g1 g2 g3 => ?_)
  rw [pt_xset, hY] at g1 g2
  exact kk H1 locs1 g1 g2 g3
theorem sx_getI (F : pt_F p m c cc nL s args own D cA) (hP : va_P D pt_cl (B ++ Y) H) (i : Nat) {ci : Nat} {fs : List Value} (hy : Y[i]? = some (a, .inr (ci, fs))) {C ref : String} {T : u_T} {N index : Nat} (hin : ∀ w ∈ u_ws C T N, w ∈ lw_all) (hcl : pt_cl[ci]? = some (C, T, N)) (j : Nat) (hj : j < N) (hlink : Cond.fieldLink own index ref (T j).2.1 (T j).2.2.1 ∈ lw_all) (hsame : Cond.sameField ref (T j).1 (T j).2.1 (T j).2.2.1 ∈ lw_all) {v : Value} (hv : fs[j]? = some v) (hdg : decode cc pc = .ok (.getfield index, 3))
    (kk : W p l e R s m args below meth c H locs cells slots Q (F0 m (pc + 3) ls (v :: rest))) : W p l e R s m args below meth c H locs cells slots Q (F0 m pc ls (.ref a :: rest)) :=
  va_get (D := D) (ci := ci) F.1.1 F.1.2.1 F.1.2.2.2.2 hin F.1.2.2.2.1 F.2 hP (B.length + i) (pt_xat hy) hcl j hj (F.1.2.2.2.2 _ hlink) (fun x h => u_same (F.1.2.2.2.2 _ hsame) x h) hv hdg kk
theorem sx_putI (F : pt_F p m c cc nL s args own D cA) (hP : va_P D pt_cl (B ++ Y) H) (hD : va_D A (B ++ Y)) (hS : va_S A H0 H locs) (i : Nat) {ci : Nat} {fs : List Value} (hy : Y[i]? = some (a, .inr (ci, fs))) {C ref : String} {T : u_T} {N index : Nat} (hin : ∀ w ∈ u_ws C T N, w ∈ lw_all) (ty0 : Nat → FieldType) (hty : ∀ k, k < N → parseFieldDescriptor (T k).2.2.1 = some (ty0 k)) (hnm : ∀ a, a < N → ∀ b, b < N → a ≠ b → (T a).2.1 ≠ (T b).2.1) (hcl : pt_cl[ci]? = some (C, T, N)) (j : Nat) (hj : j < N) (hlink : Cond.fieldLink own index ref (T j).2.1 (T j).2.2.1 ∈ lw_all) (hsame : Cond.sameField ref (T j).1 (T j).2.1 (T j).2.2.1 ∈ lw_all) (hfin : (T j).2.2.2 = false) {v : Value} (hn : narrow (ty0 j) v = v) (hfit : fits (ty0 j) v = true) (hl : j < fs.length) {Y' : va_W} (hY : Y.set i (a, .inr (ci, fs.set j v)) = Y') (hdg : decode cc pc = .ok (.putfield index, 3))
    (kk : ∀ (H1 : Heap) (locs1 : List Loc), va_P D pt_cl (B ++ Y') H1 → va_D A (B ++ Y') → va_S A H0 H1 locs1 → W p l e R s m args below meth c H1 locs1 cells slots Q (F0 m (pc + 3) ls rest)) : W p l e R s m args below meth c H locs cells slots Q (F0 m pc ls (v :: .ref a :: rest)) := by
  refine va_put (D := D) (ci := ci) (ty := ty0 j) F.1.1 F.1.2.1 F.1.2.2.2.2 hin ty0 hty hnm F.1.2.2.2.1 F.2 hP hD hS (B.length + i) (fs := fs) (pt_xat hy) hcl j hj (F.1.2.2.2.2 _ hlink) (fun x h => u_same (F.1.2.2.2.2 _ hsame) x h) hfin (hty j hj) hn hfit hl hdg (fun H1 locs1 g1 g2 g3 => ?_)
  rw [pt_xset, hY] at g1 g2
  exact kk H1 locs1 g1 g2 g3
theorem sx_getN (F : pt_F p m c cc nL s args own D cA) (hP : va_P D pt_cl (B ++ Y) H) (i : Nat) {ci : Nat} {fs : List Value} (hy : Y[i]? = some (a, .inr (ci, fs))) {C ref : String} {T : u_T} {N index : Nat} (hin : ∀ w ∈ u_ws C T N, w ∈ lw_all) (hcl : pt_cl[ci]? = some (C, T, N)) (j : Nat) (hj : j < N) {host : String} (hlink : Cond.fieldLinkNest own index ref (T j).2.1 (T j).2.2.1 host ∈ lw_all) (hsame : (T j).1 = ref) {v : Value} (hv : fs[j]? = some v) (hdg : decode cc pc = .ok (.getfield index, 3))
    (kk : W p l e R s m args below meth c H locs cells slots Q (F0 m (pc + 3) ls (v :: rest))) : W p l e R s m args below meth c H locs cells slots Q (F0 m pc ls (.ref a :: rest)) :=
  va_getN (D := D) (ci := ci) F.1.1 F.1.2.1 F.1.2.2.2.2 hin F.1.2.2.2.1 F.2 hP (B.length + i) (pt_xat hy) hcl j hj (F.1.2.2.2.2 _ hlink) (fun x h => by rw [← hsame]; exact h) hv hdg kk
theorem sx_putN (F : pt_F p m c cc nL s args own D cA) (hP : va_P D pt_cl (B ++ Y) H) (hD : va_D A (B ++ Y)) (hS : va_S A H0 H locs) (i : Nat) {ci : Nat} {fs : List Value} (hy : Y[i]? = some (a, .inr (ci, fs))) {C ref : String} {T : u_T} {N index : Nat} (hin : ∀ w ∈ u_ws C T N, w ∈ lw_all) (ty0 : Nat → FieldType) (hty : ∀ k, k < N → parseFieldDescriptor (T k).2.2.1 = some (ty0 k)) (hnm : ∀ a, a < N → ∀ b, b < N → a ≠ b → (T a).2.1 ≠ (T b).2.1) (hcl : pt_cl[ci]? = some (C, T, N)) (j : Nat) (hj : j < N) {host : String} (hlink : Cond.fieldLinkNest own index ref (T j).2.1 (T j).2.2.1 host ∈ lw_all) (hsame : (T j).1 = ref) (hfin : (T j).2.2.2 = false) {v : Value} (hn : narrow (ty0 j) v = v) (hfit : fits (ty0 j) v = true) (hl : j < fs.length) {Y' : va_W} (hY : Y.set i (a, .inr (ci, fs.set j v)) = Y') (hdg : decode cc pc = .ok (.putfield index, 3))
    (kk : ∀ (H1 : Heap) (locs1 : List Loc), va_P D pt_cl (B ++ Y') H1 → va_D A (B ++ Y') → va_S A H0 H1 locs1 → W p l e R s m args below meth c H1 locs1 cells slots Q (F0 m (pc + 3) ls rest)) : W p l e R s m args below meth c H locs cells slots Q (F0 m pc ls (v :: .ref a :: rest)) := by
  refine va_putN (D := D) (ci := ci) (ty := ty0 j) F.1.1 F.1.2.1 F.1.2.2.2.2 hin ty0 hty hnm F.1.2.2.2.1 F.2 hP hD hS (B.length + i) (fs := fs) (pt_xat hy) hcl j hj (F.1.2.2.2.2 _ hlink) (fun x h => by rw [← hsame]; exact h) hfin (hty j hj) hn hfit hl hdg (fun H1 locs1 g1 g2 g3 => ?_)
  rw [pt_xset, hY] at g1 g2
  exact kk H1 locs1 g1 g2 g3
theorem sx_pre {ws wc : va_W} {x y : Nat} (F : pt_F p m c cc nL s args own D cA) (hP : va_P D pt_cl ws H) (hD : va_D A ws) (hN : rt_Zs x y A s s.heap) (hS : va_S A s.heap H locs) (hA : ∀ q, s.heap.size ≤ q → A q) (isC : List Nat) (hn : va_nd isC = true) (hC : isC.map (fun i => ws[i]?) = wc.map some) : ∀ U : State, U.heap = H → s.WarmedH U.vm → sx_P D cA x y H.size wc U := fun U hU hW =>
  ⟨by rw [hU], by rw [hU]; exact hP.sub isC (sx_fm hC), (hD.sub isC hn hC).self, va_K.moved hW.alike F.2, by rw [hU]; exact rt_Zs.moved hW.alike ((hN.kept hS.2.1).narrow (va_free hD hS hA isC hC))⟩
theorem sx_runV {ws : va_W} (F : pt_F p m c cc nL s args own D cA) (hP : va_P D pt_cl ws H) (q0 : Nat) {b ci : Nat} {fs As : List Value} (hy : ws[q0]? = some (b, .inr (ci, fs))) {C : String} {T : u_T} {N : Nat} (hcl : pt_cl[ci]? = some (C, T, N)) {y : MethodName} {bytes : ByteArray} {maxL index n mc ms : Nat} {ret : Option FieldType} {rm : Room} {PU : State → Prop} {Qc : Array Value → State → Outcome → State → Prop} {free : Addr → Prop}
    (hM : Met l y (Cond.code y bytes maxL ret :: lw_all) rm (va_Pc (.ref b :: As) PU) Qc mc ms free) (hbl : FrameBlind (va_Pc (.ref b :: As) PU)) (hp : ∀ U : State, U.heap = H → s.WarmedH U.vm → PU U) (h1 : Cond.code y bytes maxL ret ∈ lw_all) (h2 : Cond.methodLink own index y ∈ lw_all) (h5 : Cond.initialized y.cls ∈ lw_all) (h3 : Cond.instanceMethod y ∈ lw_all) (h4 : Cond.selects C y y ∈ lw_all) (hd : y.cls ≠ "java/lang/invoke/MethodHandle" ∧ y.cls ≠ "java/lang/invoke/VarHandle" ∧ (parseMethodDescriptor y.desc).map (fun d => d.parameters.length) = some n) (hrm : rm.cells = mc ∧ rm.slots = ms ∧ rm.frames + 1 ≤ R.frames ∧ 8 + (maxL + 11) + rm.locals ≤ R.locals)
    (hn : As.length = n) (hsz : ls.size = nL) (hst : st = As.reverse ++ .ref b :: rest) (hW : (rest.map fun v => v.category).sum ≤ 8) (hdg : decode cc pc = .ok (.invokevirtual index, 3)) (hcs : cells + mc ≤ R.cells ∧ slots + ms ≤ R.slots) :
    va_Run p l e R s m args below meth c H locs cells slots mc ms (F0 m pc ls st) rest (Qc (Value.ref b :: As).toArray) free := by
  have hts := F.1.2.2.2.2
  exact va_runV (C := C) (b := b) (As := As) (rest := rest) F.1 hM ⟨⟨hrm.1, hrm.2.1, hrm.2.2.1, hrm.2.2.2, pt_kpay F h1, List.mem_cons_self, hts _ h1, hts _ h5, ⟨hd.1, hd.2.1⟩, pt_kn hd.2.2, hts _ h2⟩, hts _ h3, hts _ h4⟩ ⟨hbl, va_recv F.2 hP (ci := ci) (q0 := q0) hcl hy, fun U hU hW => ⟨rfl, hp U hU hW⟩⟩ rfl hn hsz hst (lv_room hW) hdg hcs
theorem sx_yastO (F : pt_F p m c cc nL s args own D cA) (hP : va_P D pt_cl (B ++ Y) H) (hD : va_D A (B ++ Y)) (hS : va_S A H0 H locs) (i i2 : Nat) {n : Nat} {g : Nat → Option Nat} (hy : Y[i]? = some (a, .inl (cA 4, n, .inr (.inr (.inr (.inr g)))))) {v ci : Nat} {vs : List Value} {rr : vw_C} (hy2 : Y[i2]? = some (v, .inr (ci, vs))) (hc : pt_cl[ci]? = some rr) (hca : Cond.castable rr.1 "java/lang/Object" ∈ lw_all) {j : Int32} (hin : vp_in j n) (hdg : decode cc pc = .ok (.aastore, 1)) {Y' : va_W} (hY : Y.set i (a, .inl (cA 4, n, .inr (.inr (.inr (.inr (va_up g j.toNatClampNeg (some v))))))) = Y')
    (kk : ∀ (H1 : Heap) (locs1 : List Loc), va_P D pt_cl (B ++ Y') H1 → va_D A (B ++ Y') → va_S A H0 H1 locs1 → W p l e R s m args below meth c H1 locs1 cells slots Q (F0 m (pc + 1) ls rest)) : W p l e R s m args below meth c H locs cells slots Q (F0 m pc ls (.ref v :: .int j :: .ref a :: rest)) := by
  refine va_astqO (D := D) F.1.1 F.1.2.1 F.2 hP hD hS (B.length + i) 4 (B.length + i2) ci (pt_xat hy) rfl (va_Nw.of rfl (F.1.2.2.2.2 _ hca)) (pt_xat hy2) hc hin hdg (fun H1 locs1 g1 g2 g3 => ?_)
  rw [pt_xset, hY] at g1 g2
  exact kk H1 locs1 g1 g2 g3
theorem sx_znew (F : pt_F p m c cc nL s args own D cA) (hP : va_P D pt_cl (B ++ Y) H) (hD : va_D A (B ++ Y)) (hS : va_S A H0 H locs) (hA : ∀ q, H0.size ≤ q → A q) (harr : Cond.arrayClass .boolean ∈ lw_all) {n : Int32} {N : Nat} (hn : ¬ n < 0) (hN : n.toNatClampNeg = N) (hb : N ≤ 64) (hcells : cells + 1 ≤ R.cells) (hslots : slots + N ≤ R.slots) (hdg : decode cc pc = .ok (.newarray .boolean, 2))
    (kk : ∀ (q : Nat) (H1 : Heap), va_P D pt_cl (B ++ (Y ++ [(q, .inl (cA 5, N, .inl (fun _ => 0)))])) H1 → va_D A (B ++ (Y ++ [(q, .inl (cA 5, N, .inl (fun _ => 0)))])) → va_S A H0 H1 locs →
      W p l e R s m args below meth c H1 locs (cells + 1) (slots + N) Q (F0 m (pc + 2) ls (.ref q :: rest))) : W p l e R s m args below meth c H locs cells slots Q (F0 m pc ls (.int n :: rest)) := by
  refine va_newa (D := D) (ty := .boolean) (atype := .boolean) (a0 := (N, .inl (fun _ => 0))) F.1.1 F.1.2.1 (F.1.2.2.2.2 _ harr) rfl F.2 hP hD hS hA (fun _ => rfl) hn hN (by show N * 1 ≤ 536870912; omega) hcells hslots hdg (fun q cB H1 g1 g2 g3 g4 => ?_)
  have e1 := (g1.2 7 (cB, .boolean) rfl).2
  have e2 := (F.2.2 5 (cA 5, .boolean) rfl).2
  have e : cB = cA 5 := Option.some.inj (e1.symm.trans e2)
  subst e
  rw [List.append_assoc] at g2 g3
  exact kk q H1 g2 g3 g4
variable {ws wc wr : va_W} {S : Type} {W1 : S → va_W} {av : Array Value} {mc ms : Nat}
theorem sx_callv {post : S → Prop} (hr : va_Run p l e R s m args below meth c H locs cells slots mc ms (F0 m pc ls st) rest (va_Qv post (sx_B D wc H.size W1) (va_A wc H.size) av) (va_A wc H.size)) (hP : va_P D pt_cl ws H) (hD : va_D A ws) (hS : va_S A H0 H locs) (hA : ∀ q, H0.size ≤ q → A q) (isC isR : List Nat) (hC : isC.map (fun i => ws[i]?) = wc.map some) (hR : isR.map (fun i => ws[i]?) = wr.map some) (hn : va_nd isR = true) (hdis : ∀ i ∈ isR, i ∉ isC)
    (kk : ∀ (u : S) (H1 : Heap) (locs1 : List Loc), post u → va_P D pt_cl (wr ++ W1 u) H1 → va_D A (wr ++ W1 u) → va_S A H0 H1 locs1 → W p l e R s m args below meth c H1 locs1 (cells + mc) (slots + ms) Q (F0 m (pc + 3) ls rest)) : W p l e R s m args below meth c H locs cells slots Q (F0 m pc ls st) :=
  va_callv hr hS (fun q _ h => va_free hD hS hA isC hC q h) (va_free hD hS hA isC hC) (fun u t H1 locs1 ht _ hq hB hz ho hS1 => by
    obtain ⟨b1, b2⟩ := hB
    rw [ht] at b1
    obtain ⟨g1, g2⟩ := va_join hP hD isC isR hC hR hn hdis ho (va_free hD hS hA isC hC) b1 b2
    exact kk u H1 locs1 hq g1 g2 hS1)
theorem sx_calli {post : Int32 → S → Prop} (hr : va_Run p l e R s m args below meth c H locs cells slots mc ms (F0 m pc ls st) rest (va_Qi post (sx_B D wc H.size W1) (va_A wc H.size) av) (va_A wc H.size)) (hP : va_P D pt_cl ws H) (hD : va_D A ws) (hS : va_S A H0 H locs) (hA : ∀ q, H0.size ≤ q → A q) (isC isR : List Nat) (hC : isC.map (fun i => ws[i]?) = wc.map some) (hR : isR.map (fun i => ws[i]?) = wr.map some) (hn : va_nd isR = true) (hdis : ∀ i ∈ isR, i ∉ isC)
    (kk : ∀ (r : Int32) (u : S) (H1 : Heap) (locs1 : List Loc), post r u → va_P D pt_cl (wr ++ W1 u) H1 → va_D A (wr ++ W1 u) → va_S A H0 H1 locs1 → W p l e R s m args below meth c H1 locs1 (cells + mc) (slots + ms) Q (F0 m (pc + 3) ls (.int r :: rest))) : W p l e R s m args below meth c H locs cells slots Q (F0 m pc ls st) :=
  va_calli hr hS (fun q _ h => va_free hD hS hA isC hC q h) (va_free hD hS hA isC hC) (fun r u t H1 locs1 ht _ hq hB hz ho hS1 => by
    obtain ⟨b1, b2⟩ := hB
    rw [ht] at b1
    obtain ⟨g1, g2⟩ := va_join hP hD isC isR hC hR hn hdis ho (va_free hD hS hA isC hC) b1 b2
    exact kk r u H1 locs1 hq g1 g2 hS1)
theorem sx_callr {post : S → Prop} {f : S → Nat} (hr : va_Run p l e R s m args below meth c H locs cells slots mc ms (F0 m pc ls st) rest (va_Qr post (fun u q t => q = f u ∧ sx_B D wc H.size W1 u t) (va_A wc H.size) av) (va_A wc H.size)) (hP : va_P D pt_cl ws H) (hD : va_D A ws) (hS : va_S A H0 H locs) (hA : ∀ q, H0.size ≤ q → A q) (isC isR : List Nat) (hC : isC.map (fun i => ws[i]?) = wc.map some) (hR : isR.map (fun i => ws[i]?) = wr.map some) (hn : va_nd isR = true) (hdis : ∀ i ∈ isR, i ∉ isC)
    (kk : ∀ (u : S) (H1 : Heap) (locs1 : List Loc), post u → va_P D pt_cl (wr ++ W1 u) H1 → va_D A (wr ++ W1 u) → va_S A H0 H1 locs1 → W p l e R s m args below meth c H1 locs1 (cells + mc) (slots + ms) Q (F0 m (pc + 3) ls (.ref (f u) :: rest))) : W p l e R s m args below meth c H locs cells slots Q (F0 m pc ls st) :=
  va_callr hr hS (fun q _ h => va_free hD hS hA isC hC q h) (va_free hD hS hA isC hC) (fun u ra t H1 locs1 ht _ hq hB hz ho hS1 => by
    obtain ⟨e0, b1, b2⟩ := hB
    subst e0
    rw [ht] at b1
    obtain ⟨g1, g2⟩ := va_join hP hD isC isR hC hR hn hdis ho (va_free hD hS hA isC hC) b1 b2
    exact kk u H1 locs1 hq g1 g2 hS1)
end SXR
