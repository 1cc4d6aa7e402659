/-! the law's own small methods: below, cell; and what doing, build, isSound ask of a start -/
def pf_below (v n : Int32) : Int32 := (v &&& 2147483647) - (v &&& 2147483647) / n * n
def pf_cell (L : Nat) (xs : Nat → Int32) (k : Int32) : Int32 := if Int32.ofNat L ≤ k then 790386105 * (k + 3) else xs k.toNatClampNeg
def pf_doP (D : va_G) (cA : Nat → ClassId) (sz : Nat) : State → Prop := fun U => U.heap.size = sz ∧ va_K D pt_cl (pt_T cA) U
def pf_soP (D : va_G) (cA : Nat → ClassId) (ad : Nat → Nat) (sz a0 n0 : Nat) (f0 : Nat → Int32) (M : pt_M) : State → Prop := fun U => U.heap.size = sz ∧ va_P D pt_cl (pt_W cA ad M ++ [(a0, .inl (cA 0, n0, .inl f0))]) U.heap ∧ va_K D pt_cl (pt_T cA) U ∧ va_D (fun _ => True) (pt_W cA ad M ++ [(a0, .inl (cA 0, n0, .inl f0))])
def pt_AO (U : State) : Prop := (Cond.arrayOver (.array .int)).before #[] U = true
def pf_ceP (b L : Nat) (xs : Nat → Int32) : State → Prop := fun U => va_X b L xs U U.heap ∧ b < U.heap.size
def pf_buP (D : va_G) (cA : Nat → ClassId) (ad : Nat → Nat) (sz b L : Nat) (xs : Nat → Int32) (M : pt_M) : State → Prop := fun U => pt_P D cA ad sz M U ∧ va_X b L xs U U.heap ∧ b < U.heap.size ∧ pt_AA cA U ∧ pt_AO U
def pf_buB (D : va_G) (cA : Nat → ClassId) (ad : Nat → Nat) (sz N : Nat) : ((Nat → Int32) × pt_M) → Nat → State → Prop := fun u a t => va_P D pt_cl (pt_W cA ad u.2 ++ [(a, .inl (cA 0, N, .inl u.1))]) t.heap ∧ va_D (pt_fr ad sz) (pt_W cA ad u.2 ++ [(a, .inl (cA 0, N, .inl u.1))])
theorem pf_dblind {D : va_G} {cA : Nat → ClassId} {sz : Nat} {As : List Value} : FrameBlind (va_Pc As (pf_doP D cA sz)) := fun a U g mk q => ⟨q.1, q.2.1, va_K.moved (u := U) (U := U.calling g mk a) (Vm.Alike.refl U.vm) q.2.2⟩
theorem pf_sblind {D : va_G} {cA : Nat → ClassId} {ad : Nat → Nat} {sz a0 n0 : Nat} {f0 : Nat → Int32} {M : pt_M} {As : List Value} : FrameBlind (va_Pc As (pf_soP D cA ad sz a0 n0 f0 M)) := fun a U g mk q => ⟨q.1, q.2.1, q.2.2.1, va_K.moved (u := U) (U := U.calling g mk a) (Vm.Alike.refl U.vm) q.2.2.2.1, q.2.2.2.2⟩
theorem pf_cblind {b L : Nat} {xs : Nat → Int32} {As : List Value} : FrameBlind (va_Pc As (pf_ceP b L xs)) := fun a U g mk q => ⟨q.1, va_X.moved (u := U) (U := U.calling g mk a) (Vm.Alike.refl U.vm) q.2.1, q.2.2⟩
theorem pt_AO.moved {u U : State} (hvm : u.vm.Alike U.vm) (h : pt_AO u) : pt_AO U := by
  obtain ⟨comp, c, k, h1, h2, h3, h4, h5⟩ := arrayOverA_spec h
  obtain ⟨k', hk', he⟩ := hvm.2.2 _ _ h3
  have hb : U.vm.bare = u.vm.bare := by first | exact hvm.bare_eq.symm | exact hvm.bare_eq
  have hi := va_idx_bare U.vm comp
  rw [hb] at hi
  have hi4 : _ = some c := (hi.symm.trans (va_idx_bare u.vm comp)).trans h2
  have hkind : k'.kind = .array comp (.array .int) := by rw [he]; exact h4
  have f1 : U.vm.findClass (FieldType.array .int).toString = some comp := by rw [hvm.findClass]; exact h1
  have f2 : U.vm.findClass ("[" ++ (FieldType.array .int).toString) = some c := by rw [hvm.findClass]; exact h5
  unfold pt_AO Cond.before Cond.holds
  simp [Cond.value, f1, f2]
  conv in (Array.findIdx? _ _) => tactic => exact hi4
  simp [hk', hkind]
theorem pf_bblind {D : va_G} {cA : Nat → ClassId} {ad : Nat → Nat} {sz b L : Nat} {xs : Nat → Int32} {M : pt_M} {As : List Value} : FrameBlind (va_Pc As (pf_buP D cA ad sz b L xs M)) := fun a U g mk q =>
  have h : U.vm.Alike (U.calling g mk a).vm := Vm.Alike.refl U.vm
  ⟨q.1, ⟨q.2.1.1, q.2.1.2.1, va_K.moved h q.2.1.2.2⟩, va_X.moved h q.2.2.1, q.2.2.2.1, pt_AA.moved h q.2.2.2.2.1, pt_AO.moved h q.2.2.2.2.2⟩
theorem pt_inL {j : Int32} {n : Nat} (h1 : ¬ j < 0) (h2 : j.toNatClampNeg < n) : vp_in j n := fun q => q.elim h1 (fun q => absurd q (Nat.not_le.mpr h2))
