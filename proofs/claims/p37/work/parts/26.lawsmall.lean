-- decode rows of the law's methods
theorem dL_below_0 : decode cL_below 0 = .ok (.iload_n 0, 1) := by decide +kernel
theorem dL_below_1 : decode cL_below 1 = .ok (.ldc 7, 2) := by decide +kernel
theorem dL_below_3 : decode cL_below 3 = .ok (.iand, 1) := by decide +kernel
theorem dL_below_4 : decode cL_below 4 = .ok (.iload_n 1, 1) := by decide +kernel
theorem dL_below_5 : decode cL_below 5 = .ok (.irem, 1) := by decide +kernel
theorem dL_below_6 : decode cL_below 6 = .ok (.ireturn, 1) := by decide +kernel
theorem dL_cell_0 : decode cL_cell 0 = .ok (.iload_n 1, 1) := by decide +kernel
theorem dL_cell_1 : decode cL_cell 1 = .ok (.aload_n 0, 1) := by decide +kernel
theorem dL_cell_2 : decode cL_cell 2 = .ok (.arraylength, 1) := by decide +kernel
theorem dL_cell_3 : decode cL_cell 3 = .ok (.if_icmp .ge 9, 3) := by decide +kernel
theorem dL_cell_6 : decode cL_cell 6 = .ok (.aload_n 0, 1) := by decide +kernel
theorem dL_cell_7 : decode cL_cell 7 = .ok (.iload_n 1, 1) := by decide +kernel
theorem dL_cell_8 : decode cL_cell 8 = .ok (.iaload, 1) := by decide +kernel
theorem dL_cell_9 : decode cL_cell 9 = .ok (.goto 9, 3) := by decide +kernel
theorem dL_cell_12 : decode cL_cell 12 = .ok (.ldc 8, 2) := by decide +kernel
theorem dL_cell_14 : decode cL_cell 14 = .ok (.iload_n 1, 1) := by decide +kernel
theorem dL_cell_15 : decode cL_cell 15 = .ok (.iconst 3, 1) := by decide +kernel
theorem dL_cell_16 : decode cL_cell 16 = .ok (.iadd, 1) := by decide +kernel
theorem dL_cell_17 : decode cL_cell 17 = .ok (.imul, 1) := by decide +kernel
theorem dL_cell_18 : decode cL_cell 18 = .ok (.ireturn, 1) := by decide +kernel
theorem dL_doing_0 : decode cL_doing 0 = .ok (.iload_n 0, 1) := by decide +kernel
theorem dL_doing_1 : decode cL_doing 1 = .ok (.iload_n 1, 1) := by decide +kernel
theorem dL_doing_2 : decode cL_doing 2 = .ok (.invokestatic 9, 3) := by decide +kernel
theorem dL_doing_5 : decode cL_doing 5 = .ok (.istore_n 2, 1) := by decide +kernel
theorem dL_doing_6 : decode cL_doing 6 = .ok (.iconst 3, 1) := by decide +kernel
theorem dL_doing_7 : decode cL_doing 7 = .ok (.newarray .int, 2) := by decide +kernel
theorem dL_doing_9 : decode cL_doing 9 = .ok (.dup, 1) := by decide +kernel
theorem dL_doing_10 : decode cL_doing 10 = .ok (.iconst 0, 1) := by decide +kernel
theorem dL_doing_11 : decode cL_doing 11 = .ok (.iload_n 2, 1) := by decide +kernel
theorem dL_doing_12 : decode cL_doing 12 = .ok (.iastore, 1) := by decide +kernel
theorem dL_doing_13 : decode cL_doing 13 = .ok (.dup, 1) := by decide +kernel
theorem dL_doing_14 : decode cL_doing 14 = .ok (.iconst 1, 1) := by decide +kernel
theorem dL_doing_15 : decode cL_doing 15 = .ok (.iload_n 2, 1) := by decide +kernel
theorem dL_doing_16 : decode cL_doing 16 = .ok (.iconst 3, 1) := by decide +kernel
theorem dL_doing_17 : decode cL_doing 17 = .ok (.if_icmp .ne 13, 3) := by decide +kernel
theorem dL_doing_20 : decode cL_doing 20 = .ok (.iload_n 0, 1) := by decide +kernel
theorem dL_doing_21 : decode cL_doing 21 = .ok (.iconst 3, 1) := by decide +kernel
theorem dL_doing_22 : decode cL_doing 22 = .ok (.ishr, 1) := by decide +kernel
theorem dL_doing_23 : decode cL_doing 23 = .ok (.iconst 4, 1) := by decide +kernel
theorem dL_doing_24 : decode cL_doing 24 = .ok (.invokestatic 9, 3) := by decide +kernel
theorem dL_doing_27 : decode cL_doing 27 = .ok (.goto 10, 3) := by decide +kernel
theorem dL_doing_30 : decode cL_doing 30 = .ok (.iload_n 0, 1) := by decide +kernel
theorem dL_doing_31 : decode cL_doing 31 = .ok (.iconst 3, 1) := by decide +kernel
theorem dL_doing_32 : decode cL_doing 32 = .ok (.ishr, 1) := by decide +kernel
theorem dL_doing_33 : decode cL_doing 33 = .ok (.iconst 4, 1) := by decide +kernel
theorem dL_doing_34 : decode cL_doing 34 = .ok (.invokestatic 9, 3) := by decide +kernel
theorem dL_doing_37 : decode cL_doing 37 = .ok (.iastore, 1) := by decide +kernel
theorem dL_doing_38 : decode cL_doing 38 = .ok (.dup, 1) := by decide +kernel
theorem dL_doing_39 : decode cL_doing 39 = .ok (.iconst 2, 1) := by decide +kernel
theorem dL_doing_40 : decode cL_doing 40 = .ok (.iload_n 0, 1) := by decide +kernel
theorem dL_doing_41 : decode cL_doing 41 = .ok (.iconst 2, 1) := by decide +kernel
theorem dL_doing_42 : decode cL_doing 42 = .ok (.ishr, 1) := by decide +kernel
theorem dL_doing_43 : decode cL_doing 43 = .ok (.bipush 7, 2) := by decide +kernel
theorem dL_doing_45 : decode cL_doing 45 = .ok (.invokestatic 9, 3) := by decide +kernel
theorem dL_doing_48 : decode cL_doing 48 = .ok (.iconst 3, 1) := by decide +kernel
theorem dL_doing_49 : decode cL_doing 49 = .ok (.isub, 1) := by decide +kernel
theorem dL_doing_50 : decode cL_doing 50 = .ok (.iastore, 1) := by decide +kernel
theorem dL_doing_51 : decode cL_doing 51 = .ok (.areturn, 1) := by decide +kernel
/-! below and cell over the machine; calls that make a cell -/
set_option maxHeartbeats 4000000 in
set_option maxRecDepth 100000 in
theorem mtL_below (l : Launch) (p1 p2 : Int32) (hz : ¬ p2 = 0) : Met l yL_below (Cond.code yL_below cL_below 2 (some .int) :: lw_all) ({ frames := 0, cells := 0, slots := 0, locals := 0 } : Room) (va_Pc [.int p1, .int p2] (fun _ => True)) (va_Qi (fun r (_ : Unit) => r = pf_below p1 p2) (fun _ _ => True) (fun _ => False)) 0 0 (fun _ => False) := by
  refine Met.ofW (cc := cL_below) (maxL := 2) (ret := (some .int)) (by decide) rfl ?_
  intro p e s m args below meth c s₁ B hml hv
  obtain ⟨rfl, -⟩ := hv
  have hx := B.exec
  have hb := B.bytes
  have hr := B.returns
  have hts0 := atoms_spec (ws := (Cond.code yL_below cL_below 2 (some .int) :: lw_all)) B.pre
  have hown : s.vm.findClass RL = some m.cls := findClass_of_methodNamed B.named
  have hlocks := B.notSynchronized
  have hl := lv_entry ([.int p1, .int p2]) (n := 2) (Nat.le_of_ble_eq_true rfl)
  rw [lg_entry_eq]
  generalize (lg_sl ([.int p1, .int p2]) ++ List.replicate (2 - (lg_sl ([.int p1, .int p2])).length) Slot.unset).toArray = ls at hl ⊢
  have hl : lv_has ls 2 [(0, .int p1), (1, .int p2)] := hl
  refine lv_iload_n hx hb dL_below_0 rfl (lv_at hl 0 rfl) ?_
  refine lv_ldc (v := 2147483647) hx hb hown (hts0 _ (List.mem_cons_of_mem _ kw_752)) dL_below_1 ?_
  refine lv_iand hx hb dL_below_3 ?_
  refine lv_iload_n hx hb dL_below_4 rfl (lv_at hl 1 rfl) ?_
  refine lv_irem hx hb dL_below_5 hz ?_
  have hS : va_S (fun _ => False) s.heap s.heap [] := va_S.rf
  exact W.iret (v := pf_below p1 p2) hx hb hr (fun t ht hW => ⟨⟨pf_below p1 p2, (), rfl, rfl, trivial⟩, hS.F ht⟩) (fun q hq => absurd hq List.not_mem_nil) dL_below_6
set_option maxHeartbeats 4000000 in
set_option maxRecDepth 100000 in
theorem mtL_cell (l : Launch) (b L : Nat) (xs : Nat → Int32) (p2 : Int32) (hz : ¬ p2 < 0) : Met l yL_cell (Cond.code yL_cell cL_cell 2 (some .int) :: lw_all) ({ frames := 0, cells := 0, slots := 0, locals := 0 } : Room) (va_Pc [.ref b, .int p2] (pf_ceP b L xs)) (va_Qi (fun r (_ : Unit) => r = pf_cell L xs p2) (fun _ _ => True) (fun _ => False)) 0 0 (fun _ => False) := by
  refine Met.ofW (cc := cL_cell) (maxL := 2) (ret := (some .int)) (by decide) rfl ?_
  intro p e s m args below meth c s₁ B hml hv
  obtain ⟨rfl, hX, hbl⟩ := hv
  have hx := B.exec
  have hb := B.bytes
  have hr := B.returns
  have hts0 := atoms_spec (ws := (Cond.code yL_cell cL_cell 2 (some .int) :: lw_all)) B.pre
  have hown : s.vm.findClass RL = some m.cls := findClass_of_methodNamed B.named
  have hlocks := B.notSynchronized
  have hS : va_S (fun _ => False) s.heap s.heap [] := va_S.rf
  have hl := lv_entry ([.ref b, .int p2]) (n := 2) (Nat.le_of_ble_eq_true rfl)
  rw [lg_entry_eq]
  generalize (lg_sl ([.ref b, .int p2]) ++ List.replicate (2 - (lg_sl ([.ref b, .int p2])).length) Slot.unset).toArray = ls at hl ⊢
  have hl : lv_has ls 2 [(0, .ref b), (1, .int p2)] := hl
  refine lv_iload_n hx hb dL_cell_0 rfl (lv_at hl 1 rfl) ?_
  refine lv_aload_n hx hb dL_cell_1 rfl (lv_at hl 0 rfl) ?_
  refine va_slen hx hb hX hbl (fun h => h) hS dL_cell_2 ?_
  refine lv_icmp_ge (tgt := 12) hx hb dL_cell_3 (by decide) (fun hc => ?_) (fun hc => ?_)
  · refine lv_ldc (v := 790386105) hx hb hown (hts0 _ (List.mem_cons_of_mem _ kw_756)) dL_cell_12 ?_
    refine lv_iload_n hx hb dL_cell_14 rfl (lv_at hl 1 rfl) ?_
    refine lv_iconst (v := 3) hx hb dL_cell_15 (by decide) ?_
    refine lv_iadd hx hb dL_cell_16 ?_
    refine lv_imul hx hb dL_cell_17 ?_
    exact W.iret (v := 790386105 * (p2 + 3)) hx hb hr (fun t ht hW => ⟨⟨_, (), rfl, by unfold pf_cell; rw [if_pos hc], trivial⟩, hS.F ht⟩) (fun q hq => absurd hq List.not_mem_nil) dL_cell_18
  · have hin : vp_in p2 L := by
      intro h
      rcases h with h | h
      · exact hz h
      · apply hc
        have h0 : (0 : Int) ≤ p2.toInt := by
          have := Int32.not_lt.mp hz
          simpa using Int32.le_iff_toInt_le.mp this
        have h2 : p2.toInt < 2147483648 := Int32.toInt_lt p2
        have h3 : (p2.toNatClampNeg : Int) = p2.toInt := by show ((p2.toInt.toNat : Nat) : Int) = p2.toInt; omega
        rw [Int32.le_iff_toInt_le, show (Int32.ofNat L).toInt = (L : Int) from nI_toInt (by omega)]
        omega
    refine lv_aload_n hx hb dL_cell_6 rfl (lv_at hl 0 rfl) ?_
    refine lv_iload_n hx hb dL_cell_7 rfl (lv_at hl 1 rfl) ?_
    refine va_sld hx hb hX hbl (fun h => h) hS hin dL_cell_8 ?_
    refine lv_goto (tgt := 18) hx hb dL_cell_9 (by decide) ?_
    exact W.iret (v := xs p2.toNatClampNeg) hx hb hr (fun t ht hW => ⟨⟨_, (), rfl, by unfold pf_cell; rw [if_neg hc], trivial⟩, hS.F ht⟩) (fun q hq => absurd hq List.not_mem_nil) dL_cell_18
section PTY
variable {p : Program} {l : Launch} {e : Env} {R : Room} {s : State} {m : MethodId} {args : Array Value} {below : List Frame} {meth : Method} {c : Code} {H : Heap} {locs : List Loc} {cells slots : Nat} {Q : State → Prop}
variable {cc : ByteArray} {pc nL : Nat} {ls : Array Slot} {rest st : List Value} {D : va_G} {A : Nat → Prop} {cA : Nat → ClassId} {B Y : va_W} {H0 : Heap} {own : String} {a : Array Value}
theorem pt_xlenA (F : pt_F p m c cc nL s args own D cA) (hAA : pt_AA cA s) (hP : va_P D pt_cl (B ++ Y) H) (i : Nat) {n : Nat} {a0 : Nat} {g : Nat → Option Nat} (hy : Y[i]? = some (a0, .inl (cA 4, n, .inr (.inr (.inr (.inr g)))))) (hdg : decode cc pc = .ok (.arraylength, 1))
    (kk : W p l e R s m args below meth c H locs cells slots Q (F0 m (pc + 1) ls (.int (Int32.ofNat n) :: rest))) : W p l e R s m args below meth c H locs cells slots Q (F0 m pc ls (.ref a0 :: rest)) := by
  have hc : H[a0]? = some (vp_cell (cA 4) (n, .inr (.inr (.inr (.inr g))))) := hP _ _ (pt_xat (B := B) hy)
  exact W.alen (n := Int32.ofNat n) F.1.1 F.1.2.1 hc (hAA.1 n (fun j => va_rf (g j))) (by rw [vp_cell_q, arrV_size] <;> rfl) rfl rfl hdg kk
/-- a new cell behind a call that left the old ones -/
theorem pt_xgrow {H1 : Heap} {x : Nat × va_E} (hP : va_P D pt_cl (B ++ Y) H) (hD : va_D A (B ++ Y)) (hP1 : va_P D pt_cl [x] H1) (ho : ∀ q : Nat, q < H.size → H1[q]? = H[q]?) (hx : H.size ≤ x.1) (hA : A x.1) : va_P D pt_cl (B ++ (Y ++ [x])) H1 ∧ va_D A (B ++ (Y ++ [x])) := by
  have g1 : va_P D pt_cl ((B ++ Y) ++ [x]) H1 := pt_xP.mpr ⟨pt_xkeep hP ho, hP1⟩
  have g2 : va_D A ((B ++ Y) ++ [x]) := by
    refine pt_xD.mpr ⟨hD, ⟨fun i j p q hi hj _ => ?_, fun k q hk => ?_⟩, fun i j p q hi hj e => ?_⟩
    · have h1 : i < 1 := (List.getElem?_eq_some_iff.mp hi).1
      have h2 : j < 1 := (List.getElem?_eq_some_iff.mp hj).1
      omega
    · have h1 : k < 1 := (List.getElem?_eq_some_iff.mp hk).1
      rw [show k = 0 by omega] at hk
      cases hk
      exact hA
    · have h1 : j < 1 := (List.getElem?_eq_some_iff.mp hj).1
      rw [show j = 0 by omega] at hj
      cases hj
      have := (hP i p hi).lt
      omega
  rw [List.append_assoc] at g1 g2
  exact ⟨g1, g2⟩
theorem pt_callq {mc ms : Nat} {Qi : (Nat → Int32) → Prop} (hr : va_Run p l e R s m args below meth c H locs cells slots mc ms (F0 m pc ls st) rest (va_Qr Qi (fun f a t => va_P D pt_cl [(a, .inl (cA 0, 3, .inl f))] t.heap ∧ H.size ≤ a) (fun q : Nat => H.size ≤ q) a) (fun q : Nat => H.size ≤ q)) (hP : va_P D pt_cl (B ++ Y) H) (hD : va_D A (B ++ Y)) (hS : va_S A H0 H locs) (hA : ∀ q, H0.size ≤ q → A q)
    (kk : ∀ (f : Nat → Int32) (q : Nat) (H1 : Heap) (locs1 : List Loc), Qi f → va_P D pt_cl (B ++ (Y ++ [(q, .inl (cA 0, 3, .inl f))])) H1 → va_D A (B ++ (Y ++ [(q, .inl (cA 0, 3, .inl f))])) → va_S A H0 H1 locs1 → W p l e R s m args below meth c H1 locs1 (cells + mc) (slots + ms) Q (F0 m (pc + 3) ls (.ref q :: rest))) : W p l e R s m args below meth c H locs cells slots Q (F0 m pc ls st) := by
  refine va_callr hr hS (fun q h1 h2 => absurd h2 (by omega)) (fun q h => hA q (Nat.le_trans hS.1 h)) (fun f q t H1 locs1 ht _ hq hB hz ho hS1 => ?_)
  rw [ht] at hB
  obtain ⟨g1, g2⟩ := pt_xgrow (A := A) hP hD hB.1 (fun q h => ho q h (by omega)) hB.2 (hA _ (Nat.le_trans hS.1 hB.2))
  exact kk f q H1 locs1 hq g1 g2 hS1
theorem pt_callb {mc ms N : Nat} {ad : Nat → Nat} {M : pt_M} {Qi : (Nat → Int32) → pt_M → Prop} (hr : va_Run p l e R s m args below meth c H locs cells slots mc ms (F0 m pc ls st) rest (va_Qr (fun u : (Nat → Int32) × pt_M => Qi u.1 u.2) (pf_buB D cA ad H.size N) (pt_fr ad H.size) a) (pt_fr ad H.size)) (hP : va_P D pt_cl (pt_W cA ad M ++ []) H) (hD : va_D A (pt_W cA ad M ++ [])) (hS : va_S A H0 H locs) (hA : ∀ q, pt_fr ad H0.size q → A q)
    (kk : ∀ (f : Nat → Int32) (M1 : pt_M) (q : Nat) (H1 : Heap) (locs1 : List Loc), Qi f M1 → va_P D pt_cl (pt_W cA ad M1 ++ [(q, .inl (cA 0, N, .inl f))]) H1 → va_D A (pt_W cA ad M1 ++ [(q, .inl (cA 0, N, .inl f))]) → va_S A H0 H1 locs1 → W p l e R s m args below meth c H1 locs1 (cells + mc) (slots + ms) Q (F0 m (pc + 3) ls (.ref q :: rest))) : W p l e R s m args below meth c H locs cells slots Q (F0 m pc ls st) := by
  refine va_callr hr hS (pt_frA hS hA).1 (pt_frA hS hA).2 (fun u q t H1 locs1 ht _ hq hB hz ho hS1 => ?_)
  rw [pf_buB, ht] at hB
  exact kk u.1 u.2 q H1 locs1 hq hB.1 (hB.2.weaken (fun k x _ h => (pt_frA hS hA).2 _ h)) hS1
end PTY
