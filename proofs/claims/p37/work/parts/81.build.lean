/-! ===== the law's own build ===== -/
theorem rem_nn {a b : Nat} (ha : a < 2 ^ 31) (h0 : 0 < b) (hb : b < 2 ^ 31) : nI a - nI a / nI b * nI b = nI (a % b) := by
  have hm : a % b < b := Nat.mod_lt _ h0
  apply Int32.toInt_inj.mp
  rw [rem_toInt, nI_toInt ha, nI_toInt hb, nI_toInt (by omega)]
  rfl
theorem rem_pos {a b : Nat} (ha : a < 2 ^ 31) (h0 : 0 < b) (hb : b < 2 ^ 31) : ¬ nI a - nI a / nI b * nI b < 0 := by
  rw [rem_nn ha h0 hb]
  have hm : a % b < b := Nat.mod_lt _ h0
  exact nI_pos (by omega)
/-- what doing makes -/
def dO (f : Nat → Int32) : Prop := ∃ c w z, (f 0 = nI c ∧ c < 4) ∧ (f 1 = nI w ∧ w < 4) ∧ f 2 = nI z - 3 ∧ z < 7
theorem dO_b : ∀ z, z < 7 → -99 ≤ nI z - 3 ∧ nI z - 3 ≤ 99 := by decide +kernel
theorem dO_g : ∀ z, z < 5 → -99 ≤ nI z - 2 ∧ nI z - 2 ≤ 99 := by decide +kernel
theorem f_doing {x : Int32} {Q : (Nat → Int32) → Prop} (h : ∀ f, dO f → Q f) : wpL_doing x 4 Q := by
  obtain ⟨c, hc, ec⟩ := below_lt x (k := 4) (by omega) (by omega)
  obtain ⟨w, hw, ew⟩ := below_lt (x >>> (3 &&& 31)) (k := 4) (by omega) (by omega)
  obtain ⟨z, hz, ez⟩ := below_lt (x >>> (2 &&& 31)) (k := 7) (by omega) (by omega)
  have fin : ∀ M, wjL_doing_37 x 4 Q 1 (nI w) (upd (fun _ => 0) (Int32.toNatClampNeg 0) (nI c)) M := by
    intro M
    unfold wjL_doing_37
    refine ⟨nI_in' (c := 1) (N := 3) (by omega) (by omega), eqv (eqv (eqv ?_))⟩
    rw [show pf_below (x >>> (2 &&& 31)) 7 = nI z from ez]
    exact h _ ⟨c, w, z, ⟨rfl, hc⟩, ⟨rfl, hw⟩, rfl, hz⟩
  unfold wpL_doing
  refine ⟨by decide, eqv (eqv ?_)⟩
  rw [show pf_below x 4 = nI c from ec]
  refine ⟨fun _ => eqv ?_, fun _ => eqv ?_⟩
  · rw [show pf_below (x >>> (3 &&& 31)) 4 = nI w from ew]; exact fin _
  · rw [show pf_below (x >>> (3 &&& 31)) 4 = nI w from ew]; exact fin _
/-- the kinds that build keeps are the chart's -/
def kdO (f7 : Nat → Int32) (M : pt_M) (n : Nat) : Prop := ∀ s, s < n → f7 s = M (5 + 3 * s) 2
theorem kdO.mv {f7 : Nat → Int32} {M M' : pt_M} {n : Nat} (h : kdO f7 M n) (e : ∀ s, s < n → M' (5 + 3 * s) 2 = M (5 + 3 * s) 2) : kdO f7 M' n := fun s hs => (h s hs).trans (e s hs).symm
section
variable {xL N : Nat} {xs : Nat → Int32} {Q : (Nat → Int32) → pt_M → Prop} {R30 : Int32 → (Nat → Int32) → (Nat → Int32) → pt_M → Prop}
theorem bu_237 {i : Nat} {f6 f7 fs2 fL8 : Nat → Int32} {M : pt_M} (hN : N ≤ 15) (hi : i < N) (hR : rsO M (i + 1) 0) (hk : kdO f7 M (i + 1)) (hd : f7 i ≤ 2 → dO fL8 ∧ dO fs2) (h : ∀ M', rsO M' (i + 1) 0 → kdO f7 M' (i + 1) → R30 (nI (i + 1)) f6 f7 M') : wjL_build_237 xL xs (nI N) 5 4 4 Q R30 (nI i) f6 f7 fs2 fL8 M := by
  have hc : (nI N).toNatClampNeg = N := nI_clamp (by omega)
  have hci : (nI i).toNatClampNeg = i := nI_clamp (by omega)
  unfold wjL_build_237 wjL_build_308
  rw [hc, hci]
  have hin := nI_in' (c := i) (N := N) hi (by omega)
  refine ⟨hin, hin, fun q => ⟨hin, hin, hin, ?_⟩, fun _ => nx (h M hR hk)⟩
  obtain ⟨⟨c, w, z, ⟨e1, e2⟩, ⟨e3, e4⟩, e5, e6⟩, ⟨c', w', z', ⟨g1, g2⟩, ⟨g3, g4⟩, g5, g6⟩⟩ := hd q
  rw [hk i (by omega)] at q
  have hk2 : cK M i ≤ 2 := (k_le hR.1 (s := i) (by omega) (k := 2) (by omega)).mp q
  rw [show fL8 (Int32.toNatClampNeg 0) = nI c from e1, show fL8 (Int32.toNatClampNeg 1) = nI w from e3, show fL8 (Int32.toNatClampNeg 2) = nI z - 3 from e5, show (0 : Int32) = nI 0 from i0]
  refine f_setDoing hR (by omega) hk2 e2 e4 (dO_b z e6).1 (dO_b z e6).2 (Or.inl rfl) fun r M1 hR1 hs1 => ⟨hin, hin, hin, ?_⟩
  rw [show fs2 (nI 0).toNatClampNeg = nI c' from g1, show fs2 (Int32.toNatClampNeg 1) = nI w' from g3, show fs2 (Int32.toNatClampNeg 2) = nI z' - 3 from g5, show (1 : Int32) = nI 1 from rfl]
  refine f_setDoing hR1 (by omega) (by rw [cK_eq (hs1 i (by omega))]; exact hk2) g2 g4 (dO_b z' g6).1 (dO_b z' g6).2 (Or.inr rfl) fun r M2 hR2 hs2 => ?_
  exact nx (h M2 hR2 ((hk.mv hs1).mv hs2))
theorem bu_156 {i : Nat} {x11 : Int32} {f6 f7 : Nat → Int32} {M : pt_M} (hN : N ≤ 15) (hi : i < N) (hR : rsO M (i + 1) 0) (hk : kdO f7 M (i + 1)) (h : ∀ M', rsO M' (i + 1) 0 → kdO f7 M' (i + 1) → R30 (nI (i + 1)) f6 f7 M') : wjL_build_156 xL xs (nI N) 5 4 4 Q R30 (nI i) x11 f6 f7 M := by
  have hc : (nI N).toNatClampNeg = N := nI_clamp (by omega)
  have hci : (nI i).toNatClampNeg = i := nI_clamp (by omega)
  have hin := nI_in' (c := i) (N := N) hi (by omega)
  have t196 : ∀ fs2, (f7 i ≤ 2 → dO fs2) → wjL_build_196 xL xs (nI N) 5 4 4 Q R30 (nI i) x11 f6 f7 fs2 M := by
    intro fs2 h2
    unfold wjL_build_196
    rw [hc, hci]
    refine ⟨hin, hin, fun q => f_doing fun f hf => ?_, fun q => eqv (eqv (eqv ?_))⟩
    · exact bu_237 hN hi hR hk (fun z => ⟨h2 z, hf⟩) h
    · exact bu_237 hN hi hR hk (fun z => absurd z q) h
  unfold wjL_build_156
  rw [hc, hci]
  refine ⟨hin, fun q => f_doing fun f hf => t196 _ (fun _ => hf), fun q => eqv (eqv (eqv (t196 _ (fun z => absurd z q))))⟩
theorem bu_141 {i p k : Nat} {x11 : Int32} {f6 f7 : Nat → Int32} {M : pt_M} (hN : N ≤ 15) (hi : i < N) (hR : rsO M i 0) (h0 : 0 < i) (hp : p < i) (hk4 : k ≤ 4) (hkp : cK M p ≤ 1) (hk2 : k = 2 → cK M p = 0) (e6 : f6 i = nI p) (e7 : f7 i = nI k) (hk : kdO f7 M i) (h : ∀ M', rsO M' (i + 1) 0 → kdO f7 M' (i + 1) → R30 (nI (i + 1)) f6 f7 M') : wjL_build_141 xL xs (nI N) 5 4 4 Q R30 (nI i) x11 f6 f7 M := by
  have hc : (nI N).toNatClampNeg = N := nI_clamp (by omega)
  have hci : (nI i).toNatClampNeg = i := nI_clamp (by omega)
  have hin := nI_in' (c := i) (N := N) hi (by omega)
  unfold wjL_build_141
  rw [hc, hci, e6, e7]
  refine ⟨hin, hin, f_addState hR (by omega) hp hk4 hkp hk2 fun M' hR' hs hn => bu_156 hN hi hR' (fun s hs' => ?_) h⟩
  rcases Nat.lt_or_eq_of_le (Nat.le_of_lt_succ hs') with z | rfl
  · exact (hk s z).trans (hs s z).symm
  · rw [e7, hn]
theorem bu_77 {i : Nat} {x11 : Int32} {f6 f7 : Nat → Int32} {M : pt_M} (hN : N ≤ 15) (hi : i < N) (hR : rsO M i 0) (h0 : 0 < i) (hk : kdO f7 M i) {p : Nat} (hp : p < i) (e6 : f6 i = nI p) (h : ∀ f6 f7 M', rsO M' (i + 1) 0 → kdO f7 M' (i + 1) → R30 (nI (i + 1)) f6 f7 M') : ∃ q, lpL_build_77 xL xs (nI N) 5 4 4 Q R30 q (nI i) x11 f6 f7 M := by
  have hc : (nI N).toNatClampNeg = N := nI_clamp (by omega)
  have hci : (nI i).toNatClampNeg = i := nI_clamp (by omega)
  have hin := nI_in' (c := i) (N := N) hi (by omega)
  refine lp_down (S := Int32 × Int32 × (Nat → Int32) × (Nat → Int32) × pt_M) (lp := fun k z => lpL_build_77 xL xs (nI N) 5 4 4 Q R30 k z.1 z.2.1 z.2.2.1 z.2.2.2.1 z.2.2.2.2) (lb := fun R z => lbL_build_77 xL xs (nI N) 5 4 4 Q R30 (fun a b c d e => R (a, b, c, d, e)) z.1 z.2.1 z.2.2.1 z.2.2.2.1 z.2.2.2.2) (fun _ _ => rfl) (fun p z => ∃ f6, z = (nI i, x11, f6, f7, M) ∧ p < i ∧ f6 i = nI p) ?_ (i := p) (s := (nI i, x11, f6, f7, M)) ⟨f6, rfl, hp, e6⟩
  rintro p z ⟨f6, rfl, hp, e6⟩ R hRR
  show lbL_build_77 xL xs (nI N) 5 4 4 Q R30 (fun a b c d e => R (a, b, c, d, e)) (nI i) x11 f6 f7 M
  have hcp : (nI p).toNatClampNeg = p := nI_clamp (by omega)
  have hip := nI_in' (c := p) (N := N) (by omega) (by omega)
  unfold lbL_build_77
  rw [hc, hci, e6, hcp, hk p hp]
  refine ⟨hin, hip, fun q => ⟨by decide, eqv ⟨hin, eqv ⟨hin, ?_⟩⟩⟩, fun q => ⟨hin, hin, eqv ?_⟩⟩
  · have hkp : cK M p ≤ 1 := (k_le hR.1 hp (k := 1) (by omega)).mp q
    obtain ⟨k, hk5, ek⟩ := below_lt (x11 >>> (3 &&& 31)) (k := 5) (by omega) (by omega)
    rw [show pf_below (x11 >>> (3 &&& 31)) 5 = nI k from ek]
    have u1 : upd f7 i (nI k) i = nI k := if_pos rfl
    have u2 : upd f7 i (nI k) p = f7 p := if_neg (by omega)
    have hkd : ∀ x, kdO (upd f7 i x) M i := fun x s hs => by
      show (if s = i then x else f7 s) = _
      rw [if_neg (by omega)]; exact hk s hs
    rw [u1, u2, hk p hp]
    refine ⟨fun q2 => bu_141 hN hi hR h0 hp (by omega) hkp (fun z => absurd (by rw [z]; rfl) q2) e6 u1 (hkd _) (h _ _), fun q2 => ⟨hin, hip, fun q3 => ?_, fun q3 => ⟨hin, eqv ?_⟩⟩⟩
    · refine bu_141 hN hi hR h0 hp (by omega) hkp (fun _ => ?_) e6 u1 (hkd _) (h _ _)
      have : cK M p ≠ 1 := fun z => q3 ((hR.1.k hp (k := 1) (by omega)).mpr z)
      omega
    · have hkd2 : kdO (upd (upd f7 i (nI k)) i 0) M i := fun s hs => by
        show (if s = i then (0 : Int32) else upd f7 i (nI k) s) = _
        rw [if_neg (by omega)]; exact hkd _ s hs
      exact bu_141 (k := 0) hN hi hR h0 hp (by omega) hkp (fun z => absurd z (by omega)) e6 (show (if i = i then (0 : Int32) else _) = nI 0 from if_pos rfl) hkd2 (h _ _)
  · have hp0 : p ≠ 0 := fun e => by
      subst e
      exact q ((k_le hR.1 hp (k := 1) (by omega)).mpr (by rw [hR.1.2.2.1.1]; omega))
    obtain ⟨p', rfl⟩ : ∃ p', p = p' + 1 := ⟨p - 1, by omega⟩
    rw [nI_pred]
    exact hRR p' _ rfl ⟨_, rfl, by omega, if_pos rfl⟩
end
