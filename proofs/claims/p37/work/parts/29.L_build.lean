-- ===== L_build
def wjL_build_660 (xL : Nat) (xs : Nat → Int32) (p3 : Int32) (p4 : Int32) (p5 : Int32) (p6 : Int32) (Q : (Nat → Int32) → pt_M → Prop) (R328 : Int32 → Int32 → (Nat → Int32) → pt_M → Prop) (x11 : Int32) (x12 : Int32) (f7 : Nat → Int32) (M : pt_M) : Prop :=
  ∀ x12_660 : Int32, x12_660 = x12 + 1 → R328 x11 x12_660 f7 M
def wjL_build_491 (xL : Nat) (xs : Nat → Int32) (p3 : Int32) (p4 : Int32) (p5 : Int32) (p6 : Int32) (Q : (Nat → Int32) → pt_M → Prop) (R328 : Int32 → Int32 → (Nat → Int32) → pt_M → Prop) (x11 : Int32) (x12 : Int32) (x13 : Int32) (x14 : Int32) (x15 : Int32) (x16 : Int32) (xs0 : Int32) (f7 : Nat → Int32) (M : pt_M) : Prop :=
  wpL_doing (x13 >>> (1 &&& 31)) p5 (fun f_499 => ∀ f_516 : Nat → Int32, f_516 = upd (fun _ => 0) (Int32.toNatClampNeg 0) x14 → ∀ f_521 : Nat → Int32, f_521 = upd f_516 (Int32.toNatClampNeg 1) x16 → ∀ r_530 : Int32, r_530 = pf_below (x13 >>> (2 &&& 31)) 3 → ∀ f_534 : Nat → Int32, f_534 = upd f_521 (Int32.toNatClampNeg 2) (1 + r_530) → ∀ f_539 : Nat → Int32, f_539 = upd f_534 (Int32.toNatClampNeg 3) x15 → ∀ f_544 : Nat → Int32, f_544 = upd f_539 (Int32.toNatClampNeg 4) xs0 → ∀ r_552 : Int32, r_552 = pf_below (x13 >>> (3 &&& 31)) 4 → ∀ f_555 : Nat → Int32, f_555 = upd f_544 (Int32.toNatClampNeg 5) r_552 → ∀ r_565 : Int32, r_565 = pf_below (x13 >>> (6 &&& 31)) 5 → ∀ f_570 : Nat → Int32, f_570 = upd f_555 (Int32.toNatClampNeg 6) (r_565 - 2) → ∀ f_578 : Nat → Int32, f_578 = upd f_570 (Int32.toNatClampNeg 7) (f_499 (Int32.toNatClampNeg 0)) → ∀ f_586 : Nat → Int32, f_586 = upd f_578 (Int32.toNatClampNeg 8) (f_499 (Int32.toNatClampNeg 1)) → ∀ f_594 : Nat → Int32, f_594 = upd f_586 (Int32.toNatClampNeg 9) (f_499 (Int32.toNatClampNeg 2)) → vp_in x11 (Int32.toNatClampNeg (p3 + 4)) ∧ (vp_in x11 (Int32.toNatClampNeg (p3 + 4)) ∧ (wpX7_addTransition x14 x16 (f_594 (Int32.toNatClampNeg 2)) x15 M (fun (r_610 : Int32) (M_610 : pt_M) => vp_in x11 (Int32.toNatClampNeg (p3 + 4)) ∧ (vp_in x11 (Int32.toNatClampNeg (p3 + 4)) ∧ (wpX7_setGuard x11 xs0 (f_594 (Int32.toNatClampNeg 5)) (f_594 (Int32.toNatClampNeg 6)) M_610 (fun (r_634 : Int32) (M_634 : pt_M) => wpX7_setAction x11 (f_499 (Int32.toNatClampNeg 0)) (f_499 (Int32.toNatClampNeg 1)) (f_499 (Int32.toNatClampNeg 2)) M_634 (fun (r_653 : Int32) (M_653 : pt_M) => ∀ x11_657 : Int32, x11_657 = x11 + 1 → wjL_build_660 xL xs p3 p4 p5 p6 Q R328 x11_657 x12 f7 M_653))))))))
def wjL_build_451 (xL : Nat) (xs : Nat → Int32) (p3 : Int32) (p4 : Int32) (p5 : Int32) (p6 : Int32) (Q : (Nat → Int32) → pt_M → Prop) (R328 : Int32 → Int32 → (Nat → Int32) → pt_M → Prop) (x11 : Int32) (x12 : Int32) (x13 : Int32) (x14 : Int32) (x15 : Int32) (xs0 : Int32) (f7 : Nat → Int32) (M : pt_M) : Prop :=
  vp_in x14 (Int32.toNatClampNeg p3) ∧ (((f7 (Int32.toNatClampNeg x14)) ≤ 1 → ∀ r_470 : Int32, r_470 = pf_below (x13 >>> (4 &&& 31)) 5 → (3 ≤ r_470 → ∀ r_487 : Int32, r_487 = pf_below (x13 >>> (5 &&& 31)) 3 → wjL_build_491 xL xs p3 p4 p5 p6 Q R328 x11 x12 x13 x14 x15 xs0 (1 + r_487) f7 M) ∧ (¬ 3 ≤ r_470 → wjL_build_491 xL xs p3 p4 p5 p6 Q R328 x11 x12 x13 x14 x15 xs0 0 f7 M)) ∧ (¬ (f7 (Int32.toNatClampNeg x14)) ≤ 1 → wjL_build_660 xL xs p3 p4 p5 p6 Q R328 x11 x12 f7 M))
def wjL_build_428 (xL : Nat) (xs : Nat → Int32) (p3 : Int32) (p4 : Int32) (p5 : Int32) (p6 : Int32) (Q : (Nat → Int32) → pt_M → Prop) (R328 : Int32 → Int32 → (Nat → Int32) → pt_M → Prop) (x11 : Int32) (x12 : Int32) (x13 : Int32) (x14 : Int32) (xs0 : Int32) (f7 : Nat → Int32) (M : pt_M) : Prop :=
  (x12 ≤ 200 → ¬ p6 = 0 ∧ ∀ r_448 : Int32, r_448 = pf_below (x13 >>> (3 &&& 31)) p6 → wjL_build_451 xL xs p3 p4 p5 p6 Q R328 x11 x12 x13 x14 xs0 r_448 f7 M) ∧ (¬ x12 ≤ 200 → wjL_build_451 xL xs p3 p4 p5 p6 Q R328 x11 x12 x13 x14 xs0 0 f7 M)
def wjL_build_397 (xL : Nat) (xs : Nat → Int32) (p3 : Int32) (p4 : Int32) (p5 : Int32) (p6 : Int32) (Q : (Nat → Int32) → pt_M → Prop) (R328 : Int32 → Int32 → (Nat → Int32) → pt_M → Prop) (x11 : Int32) (x12 : Int32) (x13 : Int32) (x14 : Int32) (f7 : Nat → Int32) (M : pt_M) : Prop :=
  wjL_build_428 xL xs p3 p4 p5 p6 Q R328 x11 x12 x13 x14 (-1) f7 M
def wjL_build_384 (xL : Nat) (xs : Nat → Int32) (p3 : Int32) (p4 : Int32) (p5 : Int32) (p6 : Int32) (Q : (Nat → Int32) → pt_M → Prop) (R328 : Int32 → Int32 → (Nat → Int32) → pt_M → Prop) (x11 : Int32) (x12 : Int32) (x13 : Int32) (x14 : Int32) (f7 : Nat → Int32) (M : pt_M) : Prop :=
  (x14 = 0 → wjL_build_397 xL xs p3 p4 p5 p6 Q R328 x11 x12 x13 x14 f7 M) ∧ (¬ x14 = 0 → (x12 ≤ 200 → ∀ r_406 : Int32, r_406 = pf_below (x13 >>> (2 &&& 31)) 5 → (¬ r_406 = 0 → ¬ (p3 - 1) = 0 ∧ ∀ r_424 : Int32, r_424 = pf_below (x13 >>> (1 &&& 31)) (p3 - 1) → wjL_build_428 xL xs p3 p4 p5 p6 Q R328 x11 x12 x13 x14 (1 + r_424) f7 M) ∧ (r_406 = 0 → wjL_build_428 xL xs p3 p4 p5 p6 Q R328 x11 x12 x13 x14 (-1) f7 M)) ∧ (¬ x12 ≤ 200 → wjL_build_397 xL xs p3 p4 p5 p6 Q R328 x11 x12 x13 x14 f7 M))
def lbL_build_328 (xL : Nat) (xs : Nat → Int32) (p3 : Int32) (p4 : Int32) (p5 : Int32) (p6 : Int32) (Q : (Nat → Int32) → pt_M → Prop)  (R328 : Int32 → Int32 → (Nat → Int32) → pt_M → Prop) (x11 : Int32) (x12 : Int32) (f7 : Nat → Int32) (M : pt_M) : Prop :=
  ((Int32.ofNat (Int32.toNatClampNeg (p3 + 4))) ≤ x11 → Q f7 M) ∧ (¬ (Int32.ofNat (Int32.toNatClampNeg (p3 + 4))) ≤ x11 → ¬ (16 : Int32) = 0 ∧ (¬ ((x12 + 5) - ((x12 + 5) / 16) * 16) < 0 ∧ ∀ r_344 : Int32, r_344 = pf_cell xL xs ((x12 + 5) - ((x12 + 5) / 16) * 16) → ¬ (16 : Int32) = 0 ∧ (¬ (4 : Int32) = 0 ∧ (∀ x13_363 : Int32, x13_363 = ((r_344 >>> ((((x12 / 16) - ((x12 / 16) / 4) * 4) * 3) &&& 31)) + (7 * x12)) → ¬ p3 = 0 ∧ ∀ r_368 : Int32, r_368 = pf_below x13_363 p3 → (x12 ≤ 200 → wjL_build_384 xL xs p3 p4 p5 p6 Q R328 x11 x12 x13_363 r_368 f7 M) ∧ (¬ x12 ≤ 200 → wjL_build_384 xL xs p3 p4 p5 p6 Q R328 x11 x12 x13_363 0 f7 M)))))
def lpL_build_328 (xL : Nat) (xs : Nat → Int32) (p3 : Int32) (p4 : Int32) (p5 : Int32) (p6 : Int32) (Q : (Nat → Int32) → pt_M → Prop)  : Nat → Int32 → Int32 → (Nat → Int32) → pt_M → Prop
  | 0 => fun _ _ _ _ => False
  | n + 1 => fun x11 x12 f7 M => lbL_build_328 xL xs p3 p4 p5 p6 Q (lpL_build_328 xL xs p3 p4 p5 p6 Q n) x11 x12 f7 M
def wjL_build_308 (xL : Nat) (xs : Nat → Int32) (p3 : Int32) (p4 : Int32) (p5 : Int32) (p6 : Int32) (Q : (Nat → Int32) → pt_M → Prop) (R30 : Int32 → (Nat → Int32) → (Nat → Int32) → pt_M → Prop) (x10 : Int32) (f6 : Nat → Int32) (f7 : Nat → Int32) (M : pt_M) : Prop :=
  ∀ x10_308 : Int32, x10_308 = x10 + 1 → R30 x10_308 f6 f7 M
def wjL_build_237 (xL : Nat) (xs : Nat → Int32) (p3 : Int32) (p4 : Int32) (p5 : Int32) (p6 : Int32) (Q : (Nat → Int32) → pt_M → Prop) (R30 : Int32 → (Nat → Int32) → (Nat → Int32) → pt_M → Prop) (x10 : Int32) (f6 : Nat → Int32) (f7 : Nat → Int32) (fs2 : Nat → Int32) (fL8 : Nat → Int32) (M : pt_M) : Prop :=
  vp_in x10 (Int32.toNatClampNeg p3) ∧ (vp_in x10 (Int32.toNatClampNeg p3) ∧ (((f7 (Int32.toNatClampNeg x10)) ≤ 2 → vp_in x10 (Int32.toNatClampNeg p3) ∧ (vp_in x10 (Int32.toNatClampNeg p3) ∧ (vp_in x10 (Int32.toNatClampNeg p3) ∧ (wpX7_setDoing x10 0 (fL8 (Int32.toNatClampNeg 0)) (fL8 (Int32.toNatClampNeg 1)) (fL8 (Int32.toNatClampNeg 2)) M (fun (r_275 : Int32) (M_275 : pt_M) => vp_in x10 (Int32.toNatClampNeg p3) ∧ (vp_in x10 (Int32.toNatClampNeg p3) ∧ (vp_in x10 (Int32.toNatClampNeg p3) ∧ (wpX7_setDoing x10 1 (fs2 (Int32.toNatClampNeg 0)) (fs2 (Int32.toNatClampNeg 1)) (fs2 (Int32.toNatClampNeg 2)) M_275 (fun (r_304 : Int32) (M_304 : pt_M) => wjL_build_308 xL xs p3 p4 p5 p6 Q R30 x10 f6 f7 M_304))))))))) ∧ (¬ (f7 (Int32.toNatClampNeg x10)) ≤ 2 → wjL_build_308 xL xs p3 p4 p5 p6 Q R30 x10 f6 f7 M)))
def wjL_build_196 (xL : Nat) (xs : Nat → Int32) (p3 : Int32) (p4 : Int32) (p5 : Int32) (p6 : Int32) (Q : (Nat → Int32) → pt_M → Prop) (R30 : Int32 → (Nat → Int32) → (Nat → Int32) → pt_M → Prop) (x10 : Int32) (x11 : Int32) (f6 : Nat → Int32) (f7 : Nat → Int32) (fs2 : Nat → Int32) (M : pt_M) : Prop :=
  vp_in x10 (Int32.toNatClampNeg p3) ∧ (vp_in x10 (Int32.toNatClampNeg p3) ∧ (((f7 (Int32.toNatClampNeg x10)) ≤ 2 → wpL_doing (x11 >>> (4 &&& 31)) p5 (fun f_234 => wjL_build_237 xL xs p3 p4 p5 p6 Q R30 x10 f6 f7 f_234 fs2 M)) ∧ (¬ (f7 (Int32.toNatClampNeg x10)) ≤ 2 → ∀ f_216 : Nat → Int32, f_216 = upd (fun _ => 0) (Int32.toNatClampNeg 0) 0 → ∀ f_220 : Nat → Int32, f_220 = upd f_216 (Int32.toNatClampNeg 1) 0 → ∀ f_224 : Nat → Int32, f_224 = upd f_220 (Int32.toNatClampNeg 2) 0 → wjL_build_237 xL xs p3 p4 p5 p6 Q R30 x10 f6 f7 f_224 fs2 M)))
def wjL_build_156 (xL : Nat) (xs : Nat → Int32) (p3 : Int32) (p4 : Int32) (p5 : Int32) (p6 : Int32) (Q : (Nat → Int32) → pt_M → Prop) (R30 : Int32 → (Nat → Int32) → (Nat → Int32) → pt_M → Prop) (x10 : Int32) (x11 : Int32) (f6 : Nat → Int32) (f7 : Nat → Int32) (M : pt_M) : Prop :=
  vp_in x10 (Int32.toNatClampNeg p3) ∧ (((f7 (Int32.toNatClampNeg x10)) ≤ 2 → wpL_doing (x11 >>> (2 &&& 31)) p5 (fun f_193 => wjL_build_196 xL xs p3 p4 p5 p6 Q R30 x10 x11 f6 f7 f_193 M)) ∧ (¬ (f7 (Int32.toNatClampNeg x10)) ≤ 2 → ∀ f_175 : Nat → Int32, f_175 = upd (fun _ => 0) (Int32.toNatClampNeg 0) 0 → ∀ f_179 : Nat → Int32, f_179 = upd f_175 (Int32.toNatClampNeg 1) 0 → ∀ f_183 : Nat → Int32, f_183 = upd f_179 (Int32.toNatClampNeg 2) 0 → wjL_build_196 xL xs p3 p4 p5 p6 Q R30 x10 x11 f6 f7 f_183 M))
def wjL_build_141 (xL : Nat) (xs : Nat → Int32) (p3 : Int32) (p4 : Int32) (p5 : Int32) (p6 : Int32) (Q : (Nat → Int32) → pt_M → Prop) (R30 : Int32 → (Nat → Int32) → (Nat → Int32) → pt_M → Prop) (x10 : Int32) (x11 : Int32) (f6 : Nat → Int32) (f7 : Nat → Int32) (M : pt_M) : Prop :=
  vp_in x10 (Int32.toNatClampNeg p3) ∧ (vp_in x10 (Int32.toNatClampNeg p3) ∧ (wpX7_addState (f6 (Int32.toNatClampNeg x10)) (f7 (Int32.toNatClampNeg x10)) M (fun (r_152 : Int32) (M_152 : pt_M) => wjL_build_156 xL xs p3 p4 p5 p6 Q R30 x10 x11 f6 f7 M_152)))
def lbL_build_77 (xL : Nat) (xs : Nat → Int32) (p3 : Int32) (p4 : Int32) (p5 : Int32) (p6 : Int32) (Q : (Nat → Int32) → pt_M → Prop) (R30 : Int32 → (Nat → Int32) → (Nat → Int32) → pt_M → Prop) (R77 : Int32 → Int32 → (Nat → Int32) → (Nat → Int32) → pt_M → Prop) (x10 : Int32) (x11 : Int32) (f6 : Nat → Int32) (f7 : Nat → Int32) (M : pt_M) : Prop :=
  vp_in x10 (Int32.toNatClampNeg p3) ∧ (vp_in (f6 (Int32.toNatClampNeg x10)) (Int32.toNatClampNeg p3) ∧ (((f7 (Int32.toNatClampNeg (f6 (Int32.toNatClampNeg x10)))) ≤ 1 → ¬ p4 = 0 ∧ ∀ r_110 : Int32, r_110 = pf_below (x11 >>> (3 &&& 31)) p4 → vp_in x10 (Int32.toNatClampNeg p3) ∧ ∀ f_113 : Nat → Int32, f_113 = upd f7 (Int32.toNatClampNeg x10) r_110 → vp_in x10 (Int32.toNatClampNeg p3) ∧ ((¬ (f_113 (Int32.toNatClampNeg x10)) = 2 → wjL_build_141 xL xs p3 p4 p5 p6 Q R30 x10 x11 f6 f_113 M) ∧ ((f_113 (Int32.toNatClampNeg x10)) = 2 → vp_in x10 (Int32.toNatClampNeg p3) ∧ (vp_in (f6 (Int32.toNatClampNeg x10)) (Int32.toNatClampNeg p3) ∧ ((¬ (f_113 (Int32.toNatClampNeg (f6 (Int32.toNatClampNeg x10)))) = 1 → wjL_build_141 xL xs p3 p4 p5 p6 Q R30 x10 x11 f6 f_113 M) ∧ ((f_113 (Int32.toNatClampNeg (f6 (Int32.toNatClampNeg x10)))) = 1 → vp_in x10 (Int32.toNatClampNeg p3) ∧ ∀ f_140 : Nat → Int32, f_140 = upd f_113 (Int32.toNatClampNeg x10) 0 → wjL_build_141 xL xs p3 p4 p5 p6 Q R30 x10 x11 f6 f_140 M)))))) ∧ (¬ (f7 (Int32.toNatClampNeg (f6 (Int32.toNatClampNeg x10)))) ≤ 1 → vp_in x10 (Int32.toNatClampNeg p3) ∧ (vp_in x10 (Int32.toNatClampNeg p3) ∧ ∀ f_97 : Nat → Int32, f_97 = upd f6 (Int32.toNatClampNeg x10) ((f6 (Int32.toNatClampNeg x10)) - 1) → R77 x10 x11 f_97 f7 M))))
def lpL_build_77 (xL : Nat) (xs : Nat → Int32) (p3 : Int32) (p4 : Int32) (p5 : Int32) (p6 : Int32) (Q : (Nat → Int32) → pt_M → Prop) (R30 : Int32 → (Nat → Int32) → (Nat → Int32) → pt_M → Prop) : Nat → Int32 → Int32 → (Nat → Int32) → (Nat → Int32) → pt_M → Prop
  | 0 => fun _ _ _ _ _ => False
  | n + 1 => fun x10 x11 f6 f7 M => lbL_build_77 xL xs p3 p4 p5 p6 Q R30 (lpL_build_77 xL xs p3 p4 p5 p6 Q R30 n) x10 x11 f6 f7 M
def lbL_build_30 (xL : Nat) (xs : Nat → Int32) (p3 : Int32) (p4 : Int32) (p5 : Int32) (p6 : Int32) (Q : (Nat → Int32) → pt_M → Prop)  (R30 : Int32 → (Nat → Int32) → (Nat → Int32) → pt_M → Prop) (x10 : Int32) (f6 : Nat → Int32) (f7 : Nat → Int32) (M : pt_M) : Prop :=
  (p3 ≤ x10 → ¬ (p3 + 4) < 0 ∧ (Int32.toNatClampNeg (p3 + 4)) ≤ 64 ∧ ∃ n : Nat, n ≤ 300 ∧ lpL_build_328 xL xs p3 p4 p5 p6 Q n 0 0 f7 M) ∧ (¬ p3 ≤ x10 → ¬ (16 : Int32) = 0 ∧ (¬ (x10 - (x10 / 16) * 16) < 0 ∧ ∀ r_42 : Int32, r_42 = pf_cell xL xs (x10 - (x10 / 16) * 16) → ¬ (16 : Int32) = 0 ∧ (∀ x11_56 : Int32, x11_56 = ((r_42 >>> (((x10 / 16) * 3) &&& 31)) + x10) → (x10 ≤ 0 → wjL_build_156 xL xs p3 p4 p5 p6 Q R30 x10 x11_56 f6 f7 M) ∧ (¬ x10 ≤ 0 → ¬ x10 = 0 ∧ ∀ r_73 : Int32, r_73 = pf_below (x11_56 >>> (1 &&& 31)) x10 → vp_in x10 (Int32.toNatClampNeg p3) ∧ ∀ f_76 : Nat → Int32, f_76 = upd f6 (Int32.toNatClampNeg x10) r_73 → ∃ n : Nat, lpL_build_77 xL xs p3 p4 p5 p6 Q R30 n x10 x11_56 f_76 f7 M))))
def lpL_build_30 (xL : Nat) (xs : Nat → Int32) (p3 : Int32) (p4 : Int32) (p5 : Int32) (p6 : Int32) (Q : (Nat → Int32) → pt_M → Prop)  : Nat → Int32 → (Nat → Int32) → (Nat → Int32) → pt_M → Prop
  | 0 => fun _ _ _ _ => False
  | n + 1 => fun x10 f6 f7 M => lbL_build_30 xL xs p3 p4 p5 p6 Q (lpL_build_30 xL xs p3 p4 p5 p6 Q n) x10 f6 f7 M
def wpL_build (xL : Nat) (xs : Nat → Int32) (p3 : Int32) (p4 : Int32) (p5 : Int32) (p6 : Int32) (M : pt_M) (Q : (Nat → Int32) → pt_M → Prop) : Prop :=
  ¬ p3 < 0 ∧ (Int32.toNatClampNeg p3) ≤ 64 ∧ ¬ p3 < 0 ∧ (Int32.toNatClampNeg p3) ≤ 64 ∧ ¬ p3 < 0 ∧ (Int32.toNatClampNeg p3) ≤ 64 ∧ ¬ p3 < 0 ∧ (Int32.toNatClampNeg p3) ≤ 64 ∧ vp_in 0 (Int32.toNatClampNeg p3) ∧ ∀ f_26 : Nat → Int32, f_26 = upd (fun _ => 0) (Int32.toNatClampNeg 0) (-1) → ∃ n : Nat, n ≤ 64 ∧ lpL_build_30 xL xs p3 p4 p5 p6 Q n 0 f_26 (fun _ => 0) M
set_option maxHeartbeats 8000000 in
set_option maxRecDepth 100000 in
theorem mtL_build (l : Launch) (D : va_G) (cA : Nat → ClassId) (ad : Nat → Nat) (hI : pt_I ad) (sz b : Nat) (hbad : ∀ k, k < 387 → b ≠ ad k) (xL : Nat) (xs : Nat → Int32) (p3 p4 p5 p6 : Int32) (M : pt_M) (Q : (Nat → Int32) → pt_M → Prop) (hw : wpL_build xL xs p3 p4 p5 p6 M Q) : Met l yL_build (Cond.code yL_build cL_build 19 (some (.array .int)) :: lw_all) ({ frames := 5, cells := 861, slots := 55104, locals := 109 } : Room) (va_Pc [.ref (ad 0), .ref b, .int p3, .int p4, .int p5, .int p6] (pf_buP D cA ad sz b xL xs M)) (va_Qr (fun u : (Nat → Int32) × pt_M => Q u.1 u.2) (pf_buB D cA ad sz (Int32.toNatClampNeg p3)) (pt_fr ad sz)) 861 55104 (pt_fr ad sz) := by
  refine Met.ofW (cc := cL_build) (maxL := 19) (ret := (some (.array .int))) (by decide) rfl ?_
  intro p e s m args below meth c s₁ B hml hv
  obtain ⟨rfl, ⟨hsz, hP, hK⟩, hX, hbl, hAA, hAO⟩ := hv
  have hx := B.exec
  have hb := B.bytes
  have hr := B.returns
  have hts0 := atoms_spec (ws := (Cond.code yL_build cL_build 19 (some (.array .int)) :: lw_all)) B.pre
  have hown : s.vm.findClass RL = some m.cls := findClass_of_methodNamed B.named
  have hlocks := B.notSynchronized
  subst hsz
  have F : pt_F p m c cL_build 19 s _ RL D cA := ⟨⟨hx, hb, hml, hown, fun w h => hts0 w (List.mem_cons_of_mem _ h)⟩, hK⟩
  have s_cb : 861 ≤ (headSpec (Cond.code yL_build cL_build 19 (some (.array .int)) :: lw_all) ({ frames := 5, cells := 861, slots := 55104, locals := 109 } : Room)).room.cells := Nat.le_of_ble_eq_true rfl
  have s_sb : 55104 ≤ (headSpec (Cond.code yL_build cL_build 19 (some (.array .int)) :: lw_all) ({ frames := 5, cells := 861, slots := 55104, locals := 109 } : Room)).room.slots := Nat.le_of_ble_eq_true rfl
  have hS : va_S (pt_fr ad s.heap.size) s.heap s.heap [] := va_S.rf
  have hA : ∀ q, s.heap.size ≤ q → pt_fr ad s.heap.size q := fun _ h => Or.inr h
  have hAf : ∀ q, pt_fr ad s.heap.size q → pt_fr ad s.heap.size q := fun _ h => h
  have hXH : ∀ (H : Heap) (locs : List Loc), va_S (pt_fr ad s.heap.size) s.heap H locs → va_X b xL xs s H := fun H locs h => hX.kept (h.2.1 b hbl (fun q => by rcases q with ⟨k, hk, e⟩ | q; exact hbad k hk e; omega))
  replace hP : va_P D pt_cl (pt_W cA ad M ++ []) s.heap := by rw [List.append_nil]; exact hP
  have hD : va_D (pt_fr ad s.heap.size) (pt_W cA ad M ++ []) := by rw [List.append_nil]; exact pt_D hI (fun k h => Or.inl ⟨k, h, rfl⟩) M
  have hl := lv_entry ([.ref (ad 0), .ref b, .int p3, .int p4, .int p5, .int p6]) (n := 19) (Nat.le_of_ble_eq_true rfl)
  rw [lg_entry_eq]
  generalize (lg_sl ([.ref (ad 0), .ref b, .int p3, .int p4, .int p5, .int p6]) ++ List.replicate (19 - (lg_sl ([.ref (ad 0), .ref b, .int p3, .int p4, .int p5, .int p6])).length) Slot.unset).toArray = ls at hl ⊢
  have hl : lv_has ls 19 [(0, .ref (ad 0)), (1, .ref b), (2, .int p3), (3, .int p4), (4, .int p5), (5, .int p6)] := hl
  have L328 : ∀ (n328 : Nat) (x11 : Int32) (x12 : Int32) (a7 : Nat) (f7 : Nat → Int32) (a10 : Nat) (g10 : Nat → Option Nat) (M : pt_M) (H : Heap) (locs : List Loc) (ls : Array Slot) (ce : Nat) (hce : ce + 2 * n328 ≤ 861), lpL_build_328 xL xs p3 p4 p5 p6 Q n328 x11 x12 f7 M → va_P D pt_cl (pt_W cA ad M ++ [(a7, .inl (cA 0, (Int32.toNatClampNeg p3), .inl f7)), (a10, .inl (cA 4, (Int32.toNatClampNeg (p3 + 4)), .inr (.inr (.inr (.inr g10)))))]) H → va_D (pt_fr ad s.heap.size) (pt_W cA ad M ++ [(a7, .inl (cA 0, (Int32.toNatClampNeg p3), .inl f7)), (a10, .inl (cA 4, (Int32.toNatClampNeg (p3 + 4)), .inr (.inr (.inr (.inr g10)))))]) → va_S (pt_fr ad s.heap.size) s.heap H locs → lv_has ls 19 [(0, .ref (ad 0)), (1, .ref b), (2, .int p3), (4, .int p5), (5, .int p6), (7, .ref a7), (10, .ref a10), (11, .int x11), (12, .int x12)] → W p l e (headSpec (Cond.code yL_build cL_build 19 (some (.array .int)) :: lw_all) ({ frames := 5, cells := 861, slots := 55104, locals := 109 } : Room)).room s m ([.ref (ad 0), .ref b, .int p3, .int p4, .int p5, .int p6] : List Value).toArray below meth c H locs ce (ce * 64) (MQ below (va_Qr (fun u : (Nat → Int32) × pt_M => Q u.1 u.2) (pf_buB D cA ad s.heap.size (Int32.toNatClampNeg p3)) (pt_fr ad s.heap.size)) ([.ref (ad 0), .ref b, .int p3, .int p4, .int p5, .int p6] : List Value).toArray s 861 55104 (pt_fr ad s.heap.size)) (F0 m 328 ls []) := by
    intro n328
    induction n328 with
    | zero => intro x11 x12 a7 f7 a10 g10 M H locs ls ce hce hw; exact hw.elim
    | succ n328 ih328 =>
      have J660 : ∀ (x11 : Int32) (x12 : Int32) (a7 : Nat) (f7 : Nat → Int32) (a10 : Nat) (g10 : Nat → Option Nat) (M : pt_M) (H : Heap) (locs : List Loc) (ls : Array Slot) (ce : Nat) (hce : ce + 0 + 2 * n328 ≤ 861), wjL_build_660 xL xs p3 p4 p5 p6 Q (lpL_build_328 xL xs p3 p4 p5 p6 Q n328) x11 x12 f7 M → va_P D pt_cl (pt_W cA ad M ++ [(a7, .inl (cA 0, (Int32.toNatClampNeg p3), .inl f7)), (a10, .inl (cA 4, (Int32.toNatClampNeg (p3 + 4)), .inr (.inr (.inr (.inr g10)))))]) H → va_D (pt_fr ad s.heap.size) (pt_W cA ad M ++ [(a7, .inl (cA 0, (Int32.toNatClampNeg p3), .inl f7)), (a10, .inl (cA 4, (Int32.toNatClampNeg (p3 + 4)), .inr (.inr (.inr (.inr g10)))))]) → va_S (pt_fr ad s.heap.size) s.heap H locs → lv_has ls 19 [(0, .ref (ad 0)), (1, .ref b), (2, .int p3), (4, .int p5), (5, .int p6), (7, .ref a7), (10, .ref a10), (11, .int x11), (12, .int x12)] → W p l e (headSpec (Cond.code yL_build cL_build 19 (some (.array .int)) :: lw_all) ({ frames := 5, cells := 861, slots := 55104, locals := 109 } : Room)).room s m ([.ref (ad 0), .ref b, .int p3, .int p4, .int p5, .int p6] : List Value).toArray below meth c H locs ce (ce * 64) (MQ below (va_Qr (fun u : (Nat → Int32) × pt_M => Q u.1 u.2) (pf_buB D cA ad s.heap.size (Int32.toNatClampNeg p3)) (pt_fr ad s.heap.size)) ([.ref (ad 0), .ref b, .int p3, .int p4, .int p5, .int p6] : List Value).toArray s 861 55104 (pt_fr ad s.heap.size)) (F0 m 660 ls []) := by
        intro x11 x12 a7 f7 a10 g10 M H locs ls ce hce hw hP hD hS hl
        unfold wjL_build_660 at hw
        obtain ⟨x12_660, ex12_660⟩ : ∃ y : Int32, y = x12 + 1 := ⟨_, rfl⟩
        replace hw := hw x12_660 ex12_660
        refine lv_iinc (v := x12_660) (lv' := [(12, .int x12_660), (0, .ref (ad 0)), (1, .ref b), (2, .int p3), (4, .int p5), (5, .int p6), (7, .ref a7), (10, .ref a10), (11, .int x11)]) hx hb dL_build_660 hl (k := 8) rfl (by rw [ex12_660]; rfl) (by decide) rfl (fun ls hl => ?_)
        refine lv_goto (tgt := 328) hx hb dL_build_663 (by decide) ?_
        exact ih328 x11 x12_660 a7 f7 a10 g10 M _ _ _ ce (by omega) hw (pt_xpick hP [0, 1] rfl) (pt_xpickD hD [0, 1] (by decide) rfl) hS (lv_sub hl [1, 2, 3, 4, 5, 6, 7, 8, 0] rfl)
      have J491 : ∀ (x11 : Int32) (x12 : Int32) (x13 : Int32) (x14 : Int32) (x15 : Int32) (x16 : Int32) (xs0 : Int32) (a7 : Nat) (f7 : Nat → Int32) (a10 : Nat) (g10 : Nat → Option Nat) (M : pt_M) (H : Heap) (locs : List Loc) (ls : Array Slot) (ce : Nat) (hce : ce + 2 + 2 * n328 ≤ 861), wjL_build_491 xL xs p3 p4 p5 p6 Q (lpL_build_328 xL xs p3 p4 p5 p6 Q n328) x11 x12 x13 x14 x15 x16 xs0 f7 M → va_P D pt_cl (pt_W cA ad M ++ [(a7, .inl (cA 0, (Int32.toNatClampNeg p3), .inl f7)), (a10, .inl (cA 4, (Int32.toNatClampNeg (p3 + 4)), .inr (.inr (.inr (.inr g10)))))]) H → va_D (pt_fr ad s.heap.size) (pt_W cA ad M ++ [(a7, .inl (cA 0, (Int32.toNatClampNeg p3), .inl f7)), (a10, .inl (cA 4, (Int32.toNatClampNeg (p3 + 4)), .inr (.inr (.inr (.inr g10)))))]) → va_S (pt_fr ad s.heap.size) s.heap H locs → lv_has ls 19 [(0, .ref (ad 0)), (1, .ref b), (2, .int p3), (4, .int p5), (5, .int p6), (7, .ref a7), (10, .ref a10), (11, .int x11), (12, .int x12), (13, .int x13), (14, .int x14), (15, .int x15), (16, .int x16)] → W p l e (headSpec (Cond.code yL_build cL_build 19 (some (.array .int)) :: lw_all) ({ frames := 5, cells := 861, slots := 55104, locals := 109 } : Room)).room s m ([.ref (ad 0), .ref b, .int p3, .int p4, .int p5, .int p6] : List Value).toArray below meth c H locs ce (ce * 64) (MQ below (va_Qr (fun u : (Nat → Int32) × pt_M => Q u.1 u.2) (pf_buB D cA ad s.heap.size (Int32.toNatClampNeg p3)) (pt_fr ad s.heap.size)) ([.ref (ad 0), .ref b, .int p3, .int p4, .int p5, .int p6] : List Value).toArray s 861 55104 (pt_fr ad s.heap.size)) (F0 m 491 ls [.int xs0]) := by
        intro x11 x12 x13 x14 x15 x16 xs0 a7 f7 a10 g10 M H locs ls ce hce hw hP hD hS hl
        unfold wjL_build_491 at hw
        refine lv_istore (lv' := [(17, .int xs0), (0, .ref (ad 0)), (1, .ref b), (2, .int p3), (4, .int p5), (5, .int p6), (7, .ref a7), (10, .ref a10), (11, .int x11), (12, .int x12), (13, .int x13), (14, .int x14), (15, .int x15), (16, .int x16)]) hx hb dL_build_491 hl (by decide) rfl (fun ls hl => ?_)
        refine lv_iload hx hb dL_build_493 (lv_at hl 10 rfl) ?_
        refine lv_iconst (v := 1) hx hb dL_build_495 (by decide) ?_
        refine lv_ishr hx hb dL_build_496 ?_
        refine lv_iload hx hb dL_build_497 (lv_at hl 4 rfl) ?_
        refine pt_callq (pt_runP (n := 2) (As := [.int (x13 >>> (1 &&& 31)), .int p5]) (rest := []) F (mtL_doing l D cA _ (x13 >>> (1 &&& 31)) p5 _ hw) pf_dblind (fun U hU hW => ⟨by rw [hU], va_K.moved hW.alike F.2⟩) kw_786 kw_784 kw_25 kw_785 ⟨by decide, by decide, by decide +kernel⟩ ⟨rfl, rfl, Nat.le_of_ble_eq_true rfl, Nat.le_of_ble_eq_true rfl⟩ rfl hl.1 rfl (Nat.le_of_ble_eq_true rfl) dL_build_499 ⟨(Nat.le_trans (by omega) s_cb), (Nat.le_trans (by omega) s_sb)⟩) hP hD hS hA (fun f_499 q_499 H locs hw hP hD hS => ?_)
        replace hP : va_P D pt_cl (pt_W cA ad M ++ [(a7, .inl (cA 0, (Int32.toNatClampNeg p3), .inl f7)), (a10, .inl (cA 4, (Int32.toNatClampNeg (p3 + 4)), .inr (.inr (.inr (.inr g10))))), (q_499, .inl (cA 0, 3, .inl f_499))]) H := hP
        replace hD : va_D (pt_fr ad s.heap.size) (pt_W cA ad M ++ [(a7, .inl (cA 0, (Int32.toNatClampNeg p3), .inl f7)), (a10, .inl (cA 4, (Int32.toNatClampNeg (p3 + 4)), .inr (.inr (.inr (.inr g10))))), (q_499, .inl (cA 0, 3, .inl f_499))]) := hD
        refine W.widen (k := (ce + 1)) (n := ((ce + 1) * 64)) (by omega) (by omega) ?_
        refine lv_astore (lv' := [(18, .ref q_499), (17, .int xs0), (0, .ref (ad 0)), (1, .ref b), (2, .int p3), (4, .int p5), (5, .int p6), (7, .ref a7), (10, .ref a10), (11, .int x11), (12, .int x12), (13, .int x13), (14, .int x14), (15, .int x15), (16, .int x16)]) hx hb dL_build_502 hl (by decide) rfl (fun ls hl => ?_)
        refine lv_aload hx hb dL_build_504 (lv_at hl 8 rfl) ?_
        refine lv_iload hx hb dL_build_506 (lv_at hl 9 rfl) ?_
        refine lv_bipush (v := 10) hx hb dL_build_508 (by decide) ?_
        refine pt_xnew (N := 10) F hP hD hS hA kw_88 (by decide) (by decide) (by decide) (Nat.le_trans (by omega) s_cb) (Nat.le_trans (by omega) s_sb) dL_build_510 (fun q_510 H hP hD hS => ?_)
        replace hP : va_P D pt_cl (pt_W cA ad M ++ [(a7, .inl (cA 0, (Int32.toNatClampNeg p3), .inl f7)), (a10, .inl (cA 4, (Int32.toNatClampNeg (p3 + 4)), .inr (.inr (.inr (.inr g10))))), (q_499, .inl (cA 0, 3, .inl f_499)), (q_510, .inl (cA 0, 10, .inl (fun _ => 0)))]) H := hP
        replace hD : va_D (pt_fr ad s.heap.size) (pt_W cA ad M ++ [(a7, .inl (cA 0, (Int32.toNatClampNeg p3), .inl f7)), (a10, .inl (cA 4, (Int32.toNatClampNeg (p3 + 4)), .inr (.inr (.inr (.inr g10))))), (q_499, .inl (cA 0, 3, .inl f_499)), (q_510, .inl (cA 0, 10, .inl (fun _ => 0)))]) := hD
        refine W.widen (k := (ce + 2)) (n := ((ce + 2) * 64)) (by omega) (by omega) ?_
        refine lv_dup hx hb dL_build_512 rfl ?_
        refine lv_iconst (v := 0) hx hb dL_build_513 (by decide) ?_
        refine lv_iload hx hb dL_build_514 (lv_at hl 12 rfl) ?_
        refine pt_xist (Y' := fun f1 => [(a7, .inl (cA 0, (Int32.toNatClampNeg p3), .inl f7)), (a10, .inl (cA 4, (Int32.toNatClampNeg (p3 + 4)), .inr (.inr (.inr (.inr g10))))), (q_499, .inl (cA 0, 3, .inl f_499)), (q_510, .inl (cA 0, 10, .inl f1))]) F hP hD hS 3 rfl (pt_inL (by decide) (by decide)) dL_build_516 (fun _ => rfl) (fun f_516 H locs ef_516 hP hD hS => ?_)
        replace hw := hw f_516 ef_516
        refine lv_dup hx hb dL_build_517 rfl ?_
        refine lv_iconst (v := 1) hx hb dL_build_518 (by decide) ?_
        refine lv_iload hx hb dL_build_519 (lv_at hl 14 rfl) ?_
        refine pt_xist (Y' := fun f1 => [(a7, .inl (cA 0, (Int32.toNatClampNeg p3), .inl f7)), (a10, .inl (cA 4, (Int32.toNatClampNeg (p3 + 4)), .inr (.inr (.inr (.inr g10))))), (q_499, .inl (cA 0, 3, .inl f_499)), (q_510, .inl (cA 0, 10, .inl f1))]) F hP hD hS 3 rfl (pt_inL (by decide) (by decide)) dL_build_521 (fun _ => rfl) (fun f_521 H locs ef_521 hP hD hS => ?_)
        replace hw := hw f_521 ef_521
        refine lv_dup hx hb dL_build_522 rfl ?_
        refine lv_iconst (v := 2) hx hb dL_build_523 (by decide) ?_
        refine lv_iconst (v := 1) hx hb dL_build_524 (by decide) ?_
        refine lv_iload hx hb dL_build_525 (lv_at hl 11 rfl) ?_
        refine lv_iconst (v := 2) hx hb dL_build_527 (by decide) ?_
        refine lv_ishr hx hb dL_build_528 ?_
        refine lv_iconst (v := 3) hx hb dL_build_529 (by decide) ?_
        refine pt_callp (pt_runP (n := 2) (As := [.int (x13 >>> (2 &&& 31)), .int 3]) (rest := [.int 1, .int 2, .ref q_510, .ref q_510, .int x11, .ref a10]) F (mtL_below l (x13 >>> (2 &&& 31)) 3 (by decide)) (fun _ _ _ _ h => h) (fun _ _ _ => trivial) kw_751 kw_749 kw_25 kw_750 ⟨by decide, by decide, by decide +kernel⟩ ⟨rfl, rfl, Nat.le_of_ble_eq_true rfl, Nat.le_of_ble_eq_true rfl⟩ rfl hl.1 rfl (Nat.le_of_ble_eq_true rfl) dL_build_530 ⟨(Nat.le_trans (by omega) s_cb), (Nat.le_trans (by omega) s_sb)⟩) hS (fun r_530 H locs er_530 ho hS => ?_)
        replace hP := pt_xkeep hP ho
        replace hw := hw r_530 er_530
        refine lv_iadd hx hb dL_build_533 ?_
        refine pt_xist (Y' := fun f1 => [(a7, .inl (cA 0, (Int32.toNatClampNeg p3), .inl f7)), (a10, .inl (cA 4, (Int32.toNatClampNeg (p3 + 4)), .inr (.inr (.inr (.inr g10))))), (q_499, .inl (cA 0, 3, .inl f_499)), (q_510, .inl (cA 0, 10, .inl f1))]) F hP hD hS 3 rfl (pt_inL (by decide) (by decide)) dL_build_534 (fun _ => rfl) (fun f_534 H locs ef_534 hP hD hS => ?_)
        replace hw := hw f_534 ef_534
        refine lv_dup hx hb dL_build_535 rfl ?_
        refine lv_iconst (v := 3) hx hb dL_build_536 (by decide) ?_
        refine lv_iload hx hb dL_build_537 (lv_at hl 13 rfl) ?_
        refine pt_xist (Y' := fun f1 => [(a7, .inl (cA 0, (Int32.toNatClampNeg p3), .inl f7)), (a10, .inl (cA 4, (Int32.toNatClampNeg (p3 + 4)), .inr (.inr (.inr (.inr g10))))), (q_499, .inl (cA 0, 3, .inl f_499)), (q_510, .inl (cA 0, 10, .inl f1))]) F hP hD hS 3 rfl (pt_inL (by decide) (by decide)) dL_build_539 (fun _ => rfl) (fun f_539 H locs ef_539 hP hD hS => ?_)
        replace hw := hw f_539 ef_539
        refine lv_dup hx hb dL_build_540 rfl ?_
        refine lv_iconst (v := 4) hx hb dL_build_541 (by decide) ?_
        refine lv_iload hx hb dL_build_542 (lv_at hl 1 rfl) ?_
        refine pt_xist (Y' := fun f1 => [(a7, .inl (cA 0, (Int32.toNatClampNeg p3), .inl f7)), (a10, .inl (cA 4, (Int32.toNatClampNeg (p3 + 4)), .inr (.inr (.inr (.inr g10))))), (q_499, .inl (cA 0, 3, .inl f_499)), (q_510, .inl (cA 0, 10, .inl f1))]) F hP hD hS 3 rfl (pt_inL (by decide) (by decide)) dL_build_544 (fun _ => rfl) (fun f_544 H locs ef_544 hP hD hS => ?_)
        replace hw := hw f_544 ef_544
        refine lv_dup hx hb dL_build_545 rfl ?_
        refine lv_iconst (v := 5) hx hb dL_build_546 (by decide) ?_
        refine lv_iload hx hb dL_build_547 (lv_at hl 11 rfl) ?_
        refine lv_iconst (v := 3) hx hb dL_build_549 (by decide) ?_
        refine lv_ishr hx hb dL_build_550 ?_
        refine lv_iconst (v := 4) hx hb dL_build_551 (by decide) ?_
        refine pt_callp (pt_runP (n := 2) (As := [.int (x13 >>> (3 &&& 31)), .int 4]) (rest := [.int 5, .ref q_510, .ref q_510, .int x11, .ref a10]) F (mtL_below l (x13 >>> (3 &&& 31)) 4 (by decide)) (fun _ _ _ _ h => h) (fun _ _ _ => trivial) kw_751 kw_749 kw_25 kw_750 ⟨by decide, by decide, by decide +kernel⟩ ⟨rfl, rfl, Nat.le_of_ble_eq_true rfl, Nat.le_of_ble_eq_true rfl⟩ rfl hl.1 rfl (Nat.le_of_ble_eq_true rfl) dL_build_552 ⟨(Nat.le_trans (by omega) s_cb), (Nat.le_trans (by omega) s_sb)⟩) hS (fun r_552 H locs er_552 ho hS => ?_)
        replace hP := pt_xkeep hP ho
        replace hw := hw r_552 er_552
        refine pt_xist (Y' := fun f1 => [(a7, .inl (cA 0, (Int32.toNatClampNeg p3), .inl f7)), (a10, .inl (cA 4, (Int32.toNatClampNeg (p3 + 4)), .inr (.inr (.inr (.inr g10))))), (q_499, .inl (cA 0, 3, .inl f_499)), (q_510, .inl (cA 0, 10, .inl f1))]) F hP hD hS 3 rfl (pt_inL (by decide) (by decide)) dL_build_555 (fun _ => rfl) (fun f_555 H locs ef_555 hP hD hS => ?_)
        replace hw := hw f_555 ef_555
        refine lv_dup hx hb dL_build_556 rfl ?_
        refine lv_bipush (v := 6) hx hb dL_build_557 (by decide) ?_
        refine lv_iload hx hb dL_build_559 (lv_at hl 11 rfl) ?_
        refine lv_bipush (v := 6) hx hb dL_build_561 (by decide) ?_
        refine lv_ishr hx hb dL_build_563 ?_
        refine lv_iconst (v := 5) hx hb dL_build_564 (by decide) ?_
        refine pt_callp (pt_runP (n := 2) (As := [.int (x13 >>> (6 &&& 31)), .int 5]) (rest := [.int 6, .ref q_510, .ref q_510, .int x11, .ref a10]) F (mtL_below l (x13 >>> (6 &&& 31)) 5 (by decide)) (fun _ _ _ _ h => h) (fun _ _ _ => trivial) kw_751 kw_749 kw_25 kw_750 ⟨by decide, by decide, by decide +kernel⟩ ⟨rfl, rfl, Nat.le_of_ble_eq_true rfl, Nat.le_of_ble_eq_true rfl⟩ rfl hl.1 rfl (Nat.le_of_ble_eq_true rfl) dL_build_565 ⟨(Nat.le_trans (by omega) s_cb), (Nat.le_trans (by omega) s_sb)⟩) hS (fun r_565 H locs er_565 ho hS => ?_)
        replace hP := pt_xkeep hP ho
        replace hw := hw r_565 er_565
        refine lv_iconst (v := 2) hx hb dL_build_568 (by decide) ?_
        refine lv_isub hx hb dL_build_569 ?_
        refine pt_xist (Y' := fun f1 => [(a7, .inl (cA 0, (Int32.toNatClampNeg p3), .inl f7)), (a10, .inl (cA 4, (Int32.toNatClampNeg (p3 + 4)), .inr (.inr (.inr (.inr g10))))), (q_499, .inl (cA 0, 3, .inl f_499)), (q_510, .inl (cA 0, 10, .inl f1))]) F hP hD hS 3 rfl (pt_inL (by decide) (by decide)) dL_build_570 (fun _ => rfl) (fun f_570 H locs ef_570 hP hD hS => ?_)
        replace hw := hw f_570 ef_570
        refine lv_dup hx hb dL_build_571 rfl ?_
        refine lv_bipush (v := 7) hx hb dL_build_572 (by decide) ?_
        refine lv_aload hx hb dL_build_574 (lv_at hl 0 rfl) ?_
        refine lv_iconst (v := 0) hx hb dL_build_576 (by decide) ?_
        refine pt_xild F hP 2 rfl (pt_inL (by decide) (by decide)) dL_build_577 ?_
        refine pt_xist (Y' := fun f1 => [(a7, .inl (cA 0, (Int32.toNatClampNeg p3), .inl f7)), (a10, .inl (cA 4, (Int32.toNatClampNeg (p3 + 4)), .inr (.inr (.inr (.inr g10))))), (q_499, .inl (cA 0, 3, .inl f_499)), (q_510, .inl (cA 0, 10, .inl f1))]) F hP hD hS 3 rfl (pt_inL (by decide) (by decide)) dL_build_578 (fun _ => rfl) (fun f_578 H locs ef_578 hP hD hS => ?_)
        replace hw := hw f_578 ef_578
        refine lv_dup hx hb dL_build_579 rfl ?_
        refine lv_bipush (v := 8) hx hb dL_build_580 (by decide) ?_
        refine lv_aload hx hb dL_build_582 (lv_at hl 0 rfl) ?_
        refine lv_iconst (v := 1) hx hb dL_build_584 (by decide) ?_
        refine pt_xild F hP 2 rfl (pt_inL (by decide) (by decide)) dL_build_585 ?_
        refine pt_xist (Y' := fun f1 => [(a7, .inl (cA 0, (Int32.toNatClampNeg p3), .inl f7)), (a10, .inl (cA 4, (Int32.toNatClampNeg (p3 + 4)), .inr (.inr (.inr (.inr g10))))), (q_499, .inl (cA 0, 3, .inl f_499)), (q_510, .inl (cA 0, 10, .inl f1))]) F hP hD hS 3 rfl (pt_inL (by decide) (by decide)) dL_build_586 (fun _ => rfl) (fun f_586 H locs ef_586 hP hD hS => ?_)
        replace hw := hw f_586 ef_586
        refine lv_dup hx hb dL_build_587 rfl ?_
        refine lv_bipush (v := 9) hx hb dL_build_588 (by decide) ?_
        refine lv_aload hx hb dL_build_590 (lv_at hl 0 rfl) ?_
        refine lv_iconst (v := 2) hx hb dL_build_592 (by decide) ?_
        refine pt_xild F hP 2 rfl (pt_inL (by decide) (by decide)) dL_build_593 ?_
        refine pt_xist (Y' := fun f1 => [(a7, .inl (cA 0, (Int32.toNatClampNeg p3), .inl f7)), (a10, .inl (cA 4, (Int32.toNatClampNeg (p3 + 4)), .inr (.inr (.inr (.inr g10))))), (q_499, .inl (cA 0, 3, .inl f_499)), (q_510, .inl (cA 0, 10, .inl f1))]) F hP hD hS 3 rfl (pt_inL (by decide) (by decide)) dL_build_594 (fun _ => rfl) (fun f_594 H locs ef_594 hP hD hS => ?_)
        replace hw := hw f_594 ef_594
        have hv595 := hw.1
        replace hw := hw.2
        refine pt_xastA (Y' := fun f1 => [(a7, .inl (cA 0, (Int32.toNatClampNeg p3), .inl f7)), (a10, .inl (cA 4, (Int32.toNatClampNeg (p3 + 4)), .inr (.inr (.inr (.inr f1))))), (q_499, .inl (cA 0, 3, .inl f_499)), (q_510, .inl (cA 0, 10, .inl f_594))]) F hAA hP hD hS 1 3 rfl rfl hv595 dL_build_595 (fun _ => rfl) (fun g_595 H locs hg595 hP hD hS => ?_)
        refine lv_aload_n hx hb dL_build_596 rfl (lv_at hl 2 rfl) ?_
        refine lv_iload hx hb dL_build_597 (lv_at hl 12 rfl) ?_
        refine lv_iload hx hb dL_build_599 (lv_at hl 14 rfl) ?_
        refine lv_aload hx hb dL_build_601 (lv_at hl 8 rfl) ?_
        refine lv_iload hx hb dL_build_603 (lv_at hl 9 rfl) ?_
        have hv605 := hw.1
        replace hw := hw.2
        refine pt_xaldA F hAA hP 1 rfl hg595 hv605 dL_build_605 ?_
        refine lv_iconst (v := 2) hx hb dL_build_606 (by decide) ?_
        refine pt_xild F hP 3 rfl (pt_inL (by decide) (by decide)) dL_build_607 ?_
        refine lv_iload hx hb dL_build_608 (lv_at hl 13 rfl) ?_
        refine pt_calli (pt_runV (n := 4) (As := [.int x14, .int x16, .int (f_594 (Int32.toNatClampNeg 2)), .int x15]) (rest := []) F (pt_xP.mp hP).1 (pt_c7 _ pt_k0) (pt_l7 pt_k0) rfl (mtX7_addTransition l D cA ad hI _ x14 x16 (f_594 (Int32.toNatClampNeg 2)) x15 M _ hw) kw_804 kw_801 kw_26 kw_802 kw_803 ⟨by decide, by decide, by decide +kernel⟩ ⟨rfl, rfl, Nat.le_of_ble_eq_true rfl, Nat.le_of_ble_eq_true rfl⟩ rfl hl.1 rfl (Nat.le_of_ble_eq_true rfl) dL_build_610 ⟨(Nat.le_trans (by omega) s_cb), (Nat.le_trans (by omega) s_sb)⟩) hS hAf (fun r_610 M_610 H_ locs hw hP1 hS _ ho => ?_)
        replace hP := pt_xback hP hD hP1 ho
        replace hD := pt_xeng (M1 := M_610) hD
        clear hP1 ho
        refine lv_pop hx hb dL_build_613 rfl ?_
        refine lv_aload_n hx hb dL_build_614 rfl (lv_at hl 2 rfl) ?_
        refine lv_iload hx hb dL_build_615 (lv_at hl 9 rfl) ?_
        refine lv_iload hx hb dL_build_617 (lv_at hl 1 rfl) ?_
        refine lv_aload hx hb dL_build_619 (lv_at hl 8 rfl) ?_
        refine lv_iload hx hb dL_build_621 (lv_at hl 9 rfl) ?_
        have hv623 := hw.1
        replace hw := hw.2
        refine pt_xaldA F hAA hP 1 rfl hg595 hv623 dL_build_623 ?_
        refine lv_iconst (v := 5) hx hb dL_build_624 (by decide) ?_
        refine pt_xild F hP 3 rfl (pt_inL (by decide) (by decide)) dL_build_625 ?_
        refine lv_aload hx hb dL_build_626 (lv_at hl 8 rfl) ?_
        refine lv_iload hx hb dL_build_628 (lv_at hl 9 rfl) ?_
        have hv630 := hw.1
        replace hw := hw.2
        refine pt_xaldA F hAA hP 1 rfl hg595 hv630 dL_build_630 ?_
        refine lv_bipush (v := 6) hx hb dL_build_631 (by decide) ?_
        refine pt_xild F hP 3 rfl (pt_inL (by decide) (by decide)) dL_build_633 ?_
        refine pt_calli (pt_runV (n := 4) (As := [.int x11, .int xs0, .int (f_594 (Int32.toNatClampNeg 5)), .int (f_594 (Int32.toNatClampNeg 6))]) (rest := []) F (pt_xP.mp hP).1 (pt_c7 _ pt_k0) (pt_l7 pt_k0) rfl (mtX7_setGuard l D cA ad hI _ x11 xs0 (f_594 (Int32.toNatClampNeg 5)) (f_594 (Int32.toNatClampNeg 6)) M_610 _ hw) kw_822 kw_819 kw_26 kw_820 kw_821 ⟨by decide, by decide, by decide +kernel⟩ ⟨rfl, rfl, Nat.le_of_ble_eq_true rfl, Nat.le_of_ble_eq_true rfl⟩ rfl hl.1 rfl (Nat.le_of_ble_eq_true rfl) dL_build_634 ⟨(Nat.le_trans (by omega) s_cb), (Nat.le_trans (by omega) s_sb)⟩) hS hAf (fun r_634 M_634 H_ locs hw hP1 hS _ ho => ?_)
        replace hP := pt_xback hP hD hP1 ho
        replace hD := pt_xeng (M1 := M_634) hD
        clear hP1 ho
        refine lv_pop hx hb dL_build_637 rfl ?_
        refine lv_aload_n hx hb dL_build_638 rfl (lv_at hl 2 rfl) ?_
        refine lv_iload hx hb dL_build_639 (lv_at hl 9 rfl) ?_
        refine lv_aload hx hb dL_build_641 (lv_at hl 0 rfl) ?_
        refine lv_iconst (v := 0) hx hb dL_build_643 (by decide) ?_
        refine pt_xild F hP 2 rfl (pt_inL (by decide) (by decide)) dL_build_644 ?_
        refine lv_aload hx hb dL_build_645 (lv_at hl 0 rfl) ?_
        refine lv_iconst (v := 1) hx hb dL_build_647 (by decide) ?_
        refine pt_xild F hP 2 rfl (pt_inL (by decide) (by decide)) dL_build_648 ?_
        refine lv_aload hx hb dL_build_649 (lv_at hl 0 rfl) ?_
        refine lv_iconst (v := 2) hx hb dL_build_651 (by decide) ?_
        refine pt_xild F hP 2 rfl (pt_inL (by decide) (by decide)) dL_build_652 ?_
        refine pt_calli (pt_runV (n := 4) (As := [.int x11, .int (f_499 (Int32.toNatClampNeg 0)), .int (f_499 (Int32.toNatClampNeg 1)), .int (f_499 (Int32.toNatClampNeg 2))]) (rest := []) F (pt_xP.mp hP).1 (pt_c7 _ pt_k0) (pt_l7 pt_k0) rfl (mtX7_setAction l D cA ad hI _ x11 (f_499 (Int32.toNatClampNeg 0)) (f_499 (Int32.toNatClampNeg 1)) (f_499 (Int32.toNatClampNeg 2)) M_634 _ hw) kw_829 kw_826 kw_26 kw_827 kw_828 ⟨by decide, by decide, by decide +kernel⟩ ⟨rfl, rfl, Nat.le_of_ble_eq_true rfl, Nat.le_of_ble_eq_true rfl⟩ rfl hl.1 rfl (Nat.le_of_ble_eq_true rfl) dL_build_653 ⟨(Nat.le_trans (by omega) s_cb), (Nat.le_trans (by omega) s_sb)⟩) hS hAf (fun r_653 M_653 H_ locs hw hP1 hS _ ho => ?_)
        replace hP := pt_xback hP hD hP1 ho
        replace hD := pt_xeng (M1 := M_653) hD
        clear hP1 ho
        refine lv_pop hx hb dL_build_656 rfl ?_
        obtain ⟨x11_657, ex11_657⟩ : ∃ y : Int32, y = x11 + 1 := ⟨_, rfl⟩
        replace hw := hw x11_657 ex11_657
        refine lv_iinc (v := x11_657) (lv' := [(11, .int x11_657), (18, .ref q_499), (17, .int xs0), (0, .ref (ad 0)), (1, .ref b), (2, .int p3), (4, .int p5), (5, .int p6), (7, .ref a7), (10, .ref a10), (12, .int x12), (13, .int x13), (14, .int x14), (15, .int x15), (16, .int x16)]) hx hb dL_build_657 hl (k := 9) rfl (by rw [ex11_657]; rfl) (by decide) rfl (fun ls hl => ?_)
        exact J660 x11_657 x12 a7 f7 a10 g_595 M_653 _ _ _ (ce + 2) (by omega) hw (pt_xpick hP [0, 1] rfl) (pt_xpickD hD [0, 1] (by decide) rfl) hS (lv_sub hl [3, 4, 5, 6, 7, 8, 9, 0, 10] rfl)
      have J451 : ∀ (x11 : Int32) (x12 : Int32) (x13 : Int32) (x14 : Int32) (x15 : Int32) (xs0 : Int32) (a7 : Nat) (f7 : Nat → Int32) (a10 : Nat) (g10 : Nat → Option Nat) (M : pt_M) (H : Heap) (locs : List Loc) (ls : Array Slot) (ce : Nat) (hce : ce + 2 + 2 * n328 ≤ 861), wjL_build_451 xL xs p3 p4 p5 p6 Q (lpL_build_328 xL xs p3 p4 p5 p6 Q n328) x11 x12 x13 x14 x15 xs0 f7 M → va_P D pt_cl (pt_W cA ad M ++ [(a7, .inl (cA 0, (Int32.toNatClampNeg p3), .inl f7)), (a10, .inl (cA 4, (Int32.toNatClampNeg (p3 + 4)), .inr (.inr (.inr (.inr g10)))))]) H → va_D (pt_fr ad s.heap.size) (pt_W cA ad M ++ [(a7, .inl (cA 0, (Int32.toNatClampNeg p3), .inl f7)), (a10, .inl (cA 4, (Int32.toNatClampNeg (p3 + 4)), .inr (.inr (.inr (.inr g10)))))]) → va_S (pt_fr ad s.heap.size) s.heap H locs → lv_has ls 19 [(0, .ref (ad 0)), (1, .ref b), (2, .int p3), (4, .int p5), (5, .int p6), (7, .ref a7), (10, .ref a10), (11, .int x11), (12, .int x12), (13, .int x13), (14, .int x14), (15, .int x15)] → W p l e (headSpec (Cond.code yL_build cL_build 19 (some (.array .int)) :: lw_all) ({ frames := 5, cells := 861, slots := 55104, locals := 109 } : Room)).room s m ([.ref (ad 0), .ref b, .int p3, .int p4, .int p5, .int p6] : List Value).toArray below meth c H locs ce (ce * 64) (MQ below (va_Qr (fun u : (Nat → Int32) × pt_M => Q u.1 u.2) (pf_buB D cA ad s.heap.size (Int32.toNatClampNeg p3)) (pt_fr ad s.heap.size)) ([.ref (ad 0), .ref b, .int p3, .int p4, .int p5, .int p6] : List Value).toArray s 861 55104 (pt_fr ad s.heap.size)) (F0 m 451 ls [.int xs0]) := by
        intro x11 x12 x13 x14 x15 xs0 a7 f7 a10 g10 M H locs ls ce hce hw hP hD hS hl
        unfold wjL_build_451 at hw
        refine lv_istore (lv' := [(16, .int xs0), (0, .ref (ad 0)), (1, .ref b), (2, .int p3), (4, .int p5), (5, .int p6), (7, .ref a7), (10, .ref a10), (11, .int x11), (12, .int x12), (13, .int x13), (14, .int x14), (15, .int x15)]) hx hb dL_build_451 hl (by decide) rfl (fun ls hl => ?_)
        refine lv_aload hx hb dL_build_453 (lv_at hl 6 rfl) ?_
        refine lv_iload hx hb dL_build_455 (lv_at hl 11 rfl) ?_
        have hv457 := hw.1
        replace hw := hw.2
        refine pt_xild F hP 0 rfl hv457 dL_build_457 ?_
        refine lv_iconst (v := 1) hx hb dL_build_458 (by decide) ?_
        refine lv_icmp_le (tgt := 465) hx hb dL_build_459 (by decide) (fun hc459 => ?_) (fun hc459 => ?_)
        · replace hw := hw.1 hc459
          refine lv_iload hx hb dL_build_465 (lv_at hl 10 rfl) ?_
          refine lv_iconst (v := 4) hx hb dL_build_467 (by decide) ?_
          refine lv_ishr hx hb dL_build_468 ?_
          refine lv_iconst (v := 5) hx hb dL_build_469 (by decide) ?_
          refine pt_callp (pt_runP (n := 2) (As := [.int (x13 >>> (4 &&& 31)), .int 5]) (rest := []) F (mtL_below l (x13 >>> (4 &&& 31)) 5 (by decide)) (fun _ _ _ _ h => h) (fun _ _ _ => trivial) kw_751 kw_749 kw_25 kw_750 ⟨by decide, by decide, by decide +kernel⟩ ⟨rfl, rfl, Nat.le_of_ble_eq_true rfl, Nat.le_of_ble_eq_true rfl⟩ rfl hl.1 rfl (Nat.le_of_ble_eq_true rfl) dL_build_470 ⟨(Nat.le_trans (by omega) s_cb), (Nat.le_trans (by omega) s_sb)⟩) hS (fun r_470 H locs er_470 ho hS => ?_)
          replace hP := pt_xkeep hP ho
          replace hw := hw r_470 er_470
          refine lv_iconst (v := 3) hx hb dL_build_473 (by decide) ?_
          refine lv_icmp_ge (tgt := 481) hx hb dL_build_474 (by decide) (fun hc474 => ?_) (fun hc474 => ?_)
          · replace hw := hw.1 hc474
            refine lv_iconst (v := 1) hx hb dL_build_481 (by decide) ?_
            refine lv_iload hx hb dL_build_482 (lv_at hl 10 rfl) ?_
            refine lv_iconst (v := 5) hx hb dL_build_484 (by decide) ?_
            refine lv_ishr hx hb dL_build_485 ?_
            refine lv_iconst (v := 3) hx hb dL_build_486 (by decide) ?_
            refine pt_callp (pt_runP (n := 2) (As := [.int (x13 >>> (5 &&& 31)), .int 3]) (rest := [.int 1]) F (mtL_below l (x13 >>> (5 &&& 31)) 3 (by decide)) (fun _ _ _ _ h => h) (fun _ _ _ => trivial) kw_751 kw_749 kw_25 kw_750 ⟨by decide, by decide, by decide +kernel⟩ ⟨rfl, rfl, Nat.le_of_ble_eq_true rfl, Nat.le_of_ble_eq_true rfl⟩ rfl hl.1 rfl (Nat.le_of_ble_eq_true rfl) dL_build_487 ⟨(Nat.le_trans (by omega) s_cb), (Nat.le_trans (by omega) s_sb)⟩) hS (fun r_487 H locs er_487 ho hS => ?_)
            replace hP := pt_xkeep hP ho
            replace hw := hw r_487 er_487
            refine lv_iadd hx hb dL_build_490 ?_
            exact J491 x11 x12 x13 x14 x15 xs0 (1 + r_487) a7 f7 a10 g10 M _ _ _ ce (by omega) hw (pt_xpick hP [0, 1] rfl) (pt_xpickD hD [0, 1] (by decide) rfl) hS (lv_sub hl [1, 2, 3, 4, 5, 6, 7, 8, 9, 10, 11, 12, 0] rfl)
          · replace hw := hw.2 hc474
            refine lv_iconst (v := 0) hx hb dL_build_477 (by decide) ?_
            refine lv_goto (tgt := 491) hx hb dL_build_478 (by decide) ?_
            exact J491 x11 x12 x13 x14 x15 xs0 0 a7 f7 a10 g10 M _ _ _ ce (by omega) hw (pt_xpick hP [0, 1] rfl) (pt_xpickD hD [0, 1] (by decide) rfl) hS (lv_sub hl [1, 2, 3, 4, 5, 6, 7, 8, 9, 10, 11, 12, 0] rfl)
        · replace hw := hw.2 hc459
          refine lv_goto (tgt := 660) hx hb dL_build_462 (by decide) ?_
          exact J660 x11 x12 a7 f7 a10 g10 M _ _ _ ce (by omega) hw (pt_xpick hP [0, 1] rfl) (pt_xpickD hD [0, 1] (by decide) rfl) hS (lv_sub hl [1, 2, 3, 4, 5, 6, 7, 8, 9] rfl)
      have J428 : ∀ (x11 : Int32) (x12 : Int32) (x13 : Int32) (x14 : Int32) (xs0 : Int32) (a7 : Nat) (f7 : Nat → Int32) (a10 : Nat) (g10 : Nat → Option Nat) (M : pt_M) (H : Heap) (locs : List Loc) (ls : Array Slot) (ce : Nat) (hce : ce + 2 + 2 * n328 ≤ 861), wjL_build_428 xL xs p3 p4 p5 p6 Q (lpL_build_328 xL xs p3 p4 p5 p6 Q n328) x11 x12 x13 x14 xs0 f7 M → va_P D pt_cl (pt_W cA ad M ++ [(a7, .inl (cA 0, (Int32.toNatClampNeg p3), .inl f7)), (a10, .inl (cA 4, (Int32.toNatClampNeg (p3 + 4)), .inr (.inr (.inr (.inr g10)))))]) H → va_D (pt_fr ad s.heap.size) (pt_W cA ad M ++ [(a7, .inl (cA 0, (Int32.toNatClampNeg p3), .inl f7)), (a10, .inl (cA 4, (Int32.toNatClampNeg (p3 + 4)), .inr (.inr (.inr (.inr g10)))))]) → va_S (pt_fr ad s.heap.size) s.heap H locs → lv_has ls 19 [(0, .ref (ad 0)), (1, .ref b), (2, .int p3), (4, .int p5), (5, .int p6), (7, .ref a7), (10, .ref a10), (11, .int x11), (12, .int x12), (13, .int x13), (14, .int x14)] → W p l e (headSpec (Cond.code yL_build cL_build 19 (some (.array .int)) :: lw_all) ({ frames := 5, cells := 861, slots := 55104, locals := 109 } : Room)).room s m ([.ref (ad 0), .ref b, .int p3, .int p4, .int p5, .int p6] : List Value).toArray below meth c H locs ce (ce * 64) (MQ below (va_Qr (fun u : (Nat → Int32) × pt_M => Q u.1 u.2) (pf_buB D cA ad s.heap.size (Int32.toNatClampNeg p3)) (pt_fr ad s.heap.size)) ([.ref (ad 0), .ref b, .int p3, .int p4, .int p5, .int p6] : List Value).toArray s 861 55104 (pt_fr ad s.heap.size)) (F0 m 428 ls [.int xs0]) := by
        intro x11 x12 x13 x14 xs0 a7 f7 a10 g10 M H locs ls ce hce hw hP hD hS hl
        unfold wjL_build_428 at hw
        refine lv_istore (lv' := [(15, .int xs0), (0, .ref (ad 0)), (1, .ref b), (2, .int p3), (4, .int p5), (5, .int p6), (7, .ref a7), (10, .ref a10), (11, .int x11), (12, .int x12), (13, .int x13), (14, .int x14)]) hx hb dL_build_428 hl (by decide) rfl (fun ls hl => ?_)
        refine lv_iload hx hb dL_build_430 (lv_at hl 9 rfl) ?_
        refine lv_sipush (v := 200) hx hb dL_build_432 (by decide) ?_
        refine lv_icmp_le (tgt := 442) hx hb dL_build_435 (by decide) (fun hc435 => ?_) (fun hc435 => ?_)
        · replace hw := hw.1 hc435
          refine lv_iload hx hb dL_build_442 (lv_at hl 10 rfl) ?_
          refine lv_iconst (v := 3) hx hb dL_build_444 (by decide) ?_
          refine lv_ishr hx hb dL_build_445 ?_
          refine lv_iload hx hb dL_build_446 (lv_at hl 5 rfl) ?_
          have hz448 := hw.1
          replace hw := hw.2
          refine pt_callp (pt_runP (n := 2) (As := [.int (x13 >>> (3 &&& 31)), .int p6]) (rest := []) F (mtL_below l (x13 >>> (3 &&& 31)) p6 hz448) (fun _ _ _ _ h => h) (fun _ _ _ => trivial) kw_751 kw_749 kw_25 kw_750 ⟨by decide, by decide, by decide +kernel⟩ ⟨rfl, rfl, Nat.le_of_ble_eq_true rfl, Nat.le_of_ble_eq_true rfl⟩ rfl hl.1 rfl (Nat.le_of_ble_eq_true rfl) dL_build_448 ⟨(Nat.le_trans (by omega) s_cb), (Nat.le_trans (by omega) s_sb)⟩) hS (fun r_448 H locs er_448 ho hS => ?_)
          replace hP := pt_xkeep hP ho
          replace hw := hw r_448 er_448
          exact J451 x11 x12 x13 x14 xs0 r_448 a7 f7 a10 g10 M _ _ _ ce (by omega) hw (pt_xpick hP [0, 1] rfl) (pt_xpickD hD [0, 1] (by decide) rfl) hS (lv_sub hl [1, 2, 3, 4, 5, 6, 7, 8, 9, 10, 11, 0] rfl)
        · replace hw := hw.2 hc435
          refine lv_iconst (v := 0) hx hb dL_build_438 (by decide) ?_
          refine lv_goto (tgt := 451) hx hb dL_build_439 (by decide) ?_
          exact J451 x11 x12 x13 x14 xs0 0 a7 f7 a10 g10 M _ _ _ ce (by omega) hw (pt_xpick hP [0, 1] rfl) (pt_xpickD hD [0, 1] (by decide) rfl) hS (lv_sub hl [1, 2, 3, 4, 5, 6, 7, 8, 9, 10, 11, 0] rfl)
      have J397 : ∀ (x11 : Int32) (x12 : Int32) (x13 : Int32) (x14 : Int32) (a7 : Nat) (f7 : Nat → Int32) (a10 : Nat) (g10 : Nat → Option Nat) (M : pt_M) (H : Heap) (locs : List Loc) (ls : Array Slot) (ce : Nat) (hce : ce + 2 + 2 * n328 ≤ 861), wjL_build_397 xL xs p3 p4 p5 p6 Q (lpL_build_328 xL xs p3 p4 p5 p6 Q n328) x11 x12 x13 x14 f7 M → va_P D pt_cl (pt_W cA ad M ++ [(a7, .inl (cA 0, (Int32.toNatClampNeg p3), .inl f7)), (a10, .inl (cA 4, (Int32.toNatClampNeg (p3 + 4)), .inr (.inr (.inr (.inr g10)))))]) H → va_D (pt_fr ad s.heap.size) (pt_W cA ad M ++ [(a7, .inl (cA 0, (Int32.toNatClampNeg p3), .inl f7)), (a10, .inl (cA 4, (Int32.toNatClampNeg (p3 + 4)), .inr (.inr (.inr (.inr g10)))))]) → va_S (pt_fr ad s.heap.size) s.heap H locs → lv_has ls 19 [(0, .ref (ad 0)), (1, .ref b), (2, .int p3), (4, .int p5), (5, .int p6), (7, .ref a7), (10, .ref a10), (11, .int x11), (12, .int x12), (13, .int x13), (14, .int x14)] → W p l e (headSpec (Cond.code yL_build cL_build 19 (some (.array .int)) :: lw_all) ({ frames := 5, cells := 861, slots := 55104, locals := 109 } : Room)).room s m ([.ref (ad 0), .ref b, .int p3, .int p4, .int p5, .int p6] : List Value).toArray below meth c H locs ce (ce * 64) (MQ below (va_Qr (fun u : (Nat → Int32) × pt_M => Q u.1 u.2) (pf_buB D cA ad s.heap.size (Int32.toNatClampNeg p3)) (pt_fr ad s.heap.size)) ([.ref (ad 0), .ref b, .int p3, .int p4, .int p5, .int p6] : List Value).toArray s 861 55104 (pt_fr ad s.heap.size)) (F0 m 397 ls []) := by
        intro x11 x12 x13 x14 a7 f7 a10 g10 M H locs ls ce hce hw hP hD hS hl
        unfold wjL_build_397 at hw
        refine lv_iconst (v := (-1)) hx hb dL_build_397 (by decide) ?_
        refine lv_goto (tgt := 428) hx hb dL_build_398 (by decide) ?_
        exact J428 x11 x12 x13 x14 (-1) a7 f7 a10 g10 M _ _ _ ce (by omega) hw (pt_xpick hP [0, 1] rfl) (pt_xpickD hD [0, 1] (by decide) rfl) hS (lv_sub hl [0, 1, 2, 3, 4, 5, 6, 7, 8, 9, 10] rfl)
      have J384 : ∀ (x11 : Int32) (x12 : Int32) (x13 : Int32) (x14 : Int32) (a7 : Nat) (f7 : Nat → Int32) (a10 : Nat) (g10 : Nat → Option Nat) (M : pt_M) (H : Heap) (locs : List Loc) (ls : Array Slot) (ce : Nat) (hce : ce + 2 + 2 * n328 ≤ 861), wjL_build_384 xL xs p3 p4 p5 p6 Q (lpL_build_328 xL xs p3 p4 p5 p6 Q n328) x11 x12 x13 x14 f7 M → va_P D pt_cl (pt_W cA ad M ++ [(a7, .inl (cA 0, (Int32.toNatClampNeg p3), .inl f7)), (a10, .inl (cA 4, (Int32.toNatClampNeg (p3 + 4)), .inr (.inr (.inr (.inr g10)))))]) H → va_D (pt_fr ad s.heap.size) (pt_W cA ad M ++ [(a7, .inl (cA 0, (Int32.toNatClampNeg p3), .inl f7)), (a10, .inl (cA 4, (Int32.toNatClampNeg (p3 + 4)), .inr (.inr (.inr (.inr g10)))))]) → va_S (pt_fr ad s.heap.size) s.heap H locs → lv_has ls 19 [(0, .ref (ad 0)), (1, .ref b), (2, .int p3), (4, .int p5), (5, .int p6), (7, .ref a7), (10, .ref a10), (11, .int x11), (12, .int x12), (13, .int x13), (14, .int x14)] → W p l e (headSpec (Cond.code yL_build cL_build 19 (some (.array .int)) :: lw_all) ({ frames := 5, cells := 861, slots := 55104, locals := 109 } : Room)).room s m ([.ref (ad 0), .ref b, .int p3, .int p4, .int p5, .int p6] : List Value).toArray below meth c H locs ce (ce * 64) (MQ below (va_Qr (fun u : (Nat → Int32) × pt_M => Q u.1 u.2) (pf_buB D cA ad s.heap.size (Int32.toNatClampNeg p3)) (pt_fr ad s.heap.size)) ([.ref (ad 0), .ref b, .int p3, .int p4, .int p5, .int p6] : List Value).toArray s 861 55104 (pt_fr ad s.heap.size)) (F0 m 384 ls []) := by
        intro x11 x12 x13 x14 a7 f7 a10 g10 M H locs ls ce hce hw hP hD hS hl
        unfold wjL_build_384 at hw
        refine lv_iload hx hb dL_build_384 (lv_at hl 10 rfl) ?_
        refine lv_if_eq (tgt := 397) hx hb dL_build_386 (by decide) (fun hc386 => ?_) (fun hc386 => ?_)
        · replace hw := hw.1 hc386
          exact J397 x11 x12 x13 x14 a7 f7 a10 g10 M _ _ _ ce (by omega) hw (pt_xpick hP [0, 1] rfl) (pt_xpickD hD [0, 1] (by decide) rfl) hS (lv_sub hl [0, 1, 2, 3, 4, 5, 6, 7, 8, 9, 10] rfl)
        · replace hw := hw.2 hc386
          refine lv_iload hx hb dL_build_389 (lv_at hl 8 rfl) ?_
          refine lv_sipush (v := 200) hx hb dL_build_391 (by decide) ?_
          refine lv_icmp_le (tgt := 401) hx hb dL_build_394 (by decide) (fun hc394 => ?_) (fun hc394 => ?_)
          · replace hw := hw.1 hc394
            refine lv_iload hx hb dL_build_401 (lv_at hl 9 rfl) ?_
            refine lv_iconst (v := 2) hx hb dL_build_403 (by decide) ?_
            refine lv_ishr hx hb dL_build_404 ?_
            refine lv_iconst (v := 5) hx hb dL_build_405 (by decide) ?_
            refine pt_callp (pt_runP (n := 2) (As := [.int (x13 >>> (2 &&& 31)), .int 5]) (rest := []) F (mtL_below l (x13 >>> (2 &&& 31)) 5 (by decide)) (fun _ _ _ _ h => h) (fun _ _ _ => trivial) kw_751 kw_749 kw_25 kw_750 ⟨by decide, by decide, by decide +kernel⟩ ⟨rfl, rfl, Nat.le_of_ble_eq_true rfl, Nat.le_of_ble_eq_true rfl⟩ rfl hl.1 rfl (Nat.le_of_ble_eq_true rfl) dL_build_406 ⟨(Nat.le_trans (by omega) s_cb), (Nat.le_trans (by omega) s_sb)⟩) hS (fun r_406 H locs er_406 ho hS => ?_)
            replace hP := pt_xkeep hP ho
            replace hw := hw r_406 er_406
            refine lv_if_ne (tgt := 416) hx hb dL_build_409 (by decide) (fun hc409 => ?_) (fun hc409 => ?_)
            · replace hw := hw.1 hc409
              refine lv_iconst (v := 1) hx hb dL_build_416 (by decide) ?_
              refine lv_iload hx hb dL_build_417 (lv_at hl 9 rfl) ?_
              refine lv_iconst (v := 1) hx hb dL_build_419 (by decide) ?_
              refine lv_ishr hx hb dL_build_420 ?_
              refine lv_iload_n hx hb dL_build_421 rfl (lv_at hl 2 rfl) ?_
              refine lv_iconst (v := 1) hx hb dL_build_422 (by decide) ?_
              refine lv_isub hx hb dL_build_423 ?_
              have hz424 := hw.1
              replace hw := hw.2
              refine pt_callp (pt_runP (n := 2) (As := [.int (x13 >>> (1 &&& 31)), .int (p3 - 1)]) (rest := [.int 1]) F (mtL_below l (x13 >>> (1 &&& 31)) (p3 - 1) hz424) (fun _ _ _ _ h => h) (fun _ _ _ => trivial) kw_751 kw_749 kw_25 kw_750 ⟨by decide, by decide, by decide +kernel⟩ ⟨rfl, rfl, Nat.le_of_ble_eq_true rfl, Nat.le_of_ble_eq_true rfl⟩ rfl hl.1 rfl (Nat.le_of_ble_eq_true rfl) dL_build_424 ⟨(Nat.le_trans (by omega) s_cb), (Nat.le_trans (by omega) s_sb)⟩) hS (fun r_424 H locs er_424 ho hS => ?_)
              replace hP := pt_xkeep hP ho
              replace hw := hw r_424 er_424
              refine lv_iadd hx hb dL_build_427 ?_
              exact J428 x11 x12 x13 x14 (1 + r_424) a7 f7 a10 g10 M _ _ _ ce (by omega) hw (pt_xpick hP [0, 1] rfl) (pt_xpickD hD [0, 1] (by decide) rfl) hS (lv_sub hl [0, 1, 2, 3, 4, 5, 6, 7, 8, 9, 10] rfl)
            · replace hw := hw.2 hc409
              refine lv_iconst (v := (-1)) hx hb dL_build_412 (by decide) ?_
              refine lv_goto (tgt := 428) hx hb dL_build_413 (by decide) ?_
              exact J428 x11 x12 x13 x14 (-1) a7 f7 a10 g10 M _ _ _ ce (by omega) hw (pt_xpick hP [0, 1] rfl) (pt_xpickD hD [0, 1] (by decide) rfl) hS (lv_sub hl [0, 1, 2, 3, 4, 5, 6, 7, 8, 9, 10] rfl)
          · replace hw := hw.2 hc394
            exact J397 x11 x12 x13 x14 a7 f7 a10 g10 M _ _ _ ce (by omega) hw (pt_xpick hP [0, 1] rfl) (pt_xpickD hD [0, 1] (by decide) rfl) hS (lv_sub hl [0, 1, 2, 3, 4, 5, 6, 7, 8, 9, 10] rfl)
      intro x11 x12 a7 f7 a10 g10 M H locs ls ce hce hw hP hD hS hl
      replace hw : lbL_build_328 xL xs p3 p4 p5 p6 Q (lpL_build_328 xL xs p3 p4 p5 p6 Q n328) x11 x12 f7 M := hw
      unfold lbL_build_328 at hw
      refine lv_iload hx hb dL_build_328 (lv_at hl 7 rfl) ?_
      refine lv_aload hx hb dL_build_330 (lv_at hl 6 rfl) ?_
      refine pt_xlenA F hAA hP 1 rfl dL_build_332 ?_
      refine lv_icmp_ge (tgt := 666) hx hb dL_build_333 (by decide) (fun hc333 => ?_) (fun hc333 => ?_)
      · replace hw := hw.1 hc333
        refine W.widen (k := 861) (n := 55104) (by omega) (by omega) ?_
        refine lv_aload hx hb dL_build_666 (lv_at hl 5 rfl) ?_
        exact W.aret (rt := .array .int) hx hb hr (Or.inr ⟨_, rfl⟩) (Or.inr ⟨_, rfl⟩) (fun t ht hW => ⟨⟨(f7, M), a7, rfl, hw, by show va_P D pt_cl (pt_W cA ad M ++ [(a7, .inl (cA 0, (Int32.toNatClampNeg p3), .inl f7))]) t.heap; rw [ht]; exact pt_xpick hP [0] rfl, pt_xpickD hD [0] (by decide) rfl⟩, hS.F ht⟩) hS.2.2 dL_build_668
      · replace hw := hw.2 hc333
        refine lv_aload_n hx hb dL_build_336 rfl (lv_at hl 1 rfl) ?_
        refine lv_iload hx hb dL_build_337 (lv_at hl 8 rfl) ?_
        refine lv_iconst (v := 5) hx hb dL_build_339 (by decide) ?_
        refine lv_iadd hx hb dL_build_340 ?_
        refine lv_bipush (v := 16) hx hb dL_build_341 (by decide) ?_
        have hz343 := hw.1
        replace hw := hw.2
        refine lv_irem hx hb dL_build_343 hz343 ?_
        have hz344 := hw.1
        replace hw := hw.2
        refine pt_callp (pt_runP (n := 2) (As := [.ref b, .int ((x12 + 5) - ((x12 + 5) / 16) * 16)]) (rest := []) F (mtL_cell l b xL xs ((x12 + 5) - ((x12 + 5) / 16) * 16) hz344) pf_cblind (fun U hU hW => ⟨by rw [hU]; exact va_X.moved hW.alike (hXH _ _ hS), by rw [hU]; exact Nat.lt_of_lt_of_le hbl hS.1⟩) kw_755 kw_753 kw_25 kw_754 ⟨by decide, by decide, by decide +kernel⟩ ⟨rfl, rfl, Nat.le_of_ble_eq_true rfl, Nat.le_of_ble_eq_true rfl⟩ rfl hl.1 rfl (Nat.le_of_ble_eq_true rfl) dL_build_344 ⟨(Nat.le_trans (by omega) s_cb), (Nat.le_trans (by omega) s_sb)⟩) hS (fun r_344 H locs er_344 ho hS => ?_)
        replace hP := pt_xkeep hP ho
        replace hw := hw r_344 er_344
        refine lv_iload hx hb dL_build_347 (lv_at hl 8 rfl) ?_
        refine lv_bipush (v := 16) hx hb dL_build_349 (by decide) ?_
        have hz351 := hw.1
        replace hw := hw.2
        refine lv_idiv hx hb dL_build_351 hz351 ?_
        refine lv_iconst (v := 4) hx hb dL_build_352 (by decide) ?_
        have hz353 := hw.1
        replace hw := hw.2
        refine lv_irem hx hb dL_build_353 hz353 ?_
        refine lv_iconst (v := 3) hx hb dL_build_354 (by decide) ?_
        refine lv_imul hx hb dL_build_355 ?_
        refine lv_ishr hx hb dL_build_356 ?_
        refine lv_bipush (v := 7) hx hb dL_build_357 (by decide) ?_
        refine lv_iload hx hb dL_build_359 (lv_at hl 8 rfl) ?_
        refine lv_imul hx hb dL_build_361 ?_
        refine lv_iadd hx hb dL_build_362 ?_
        refine lv_topi (fun x13_363 ex13_363 => ?_)
        replace hw := hw x13_363 ex13_363
        refine lv_istore (lv' := [(13, .int x13_363), (0, .ref (ad 0)), (1, .ref b), (2, .int p3), (4, .int p5), (5, .int p6), (7, .ref a7), (10, .ref a10), (11, .int x11), (12, .int x12)]) hx hb dL_build_363 hl (by decide) rfl (fun ls hl => ?_)
        refine lv_iload hx hb dL_build_365 (lv_at hl 0 rfl) ?_
        refine lv_iload_n hx hb dL_build_367 rfl (lv_at hl 3 rfl) ?_
        have hz368 := hw.1
        replace hw := hw.2
        refine pt_callp (pt_runP (n := 2) (As := [.int x13_363, .int p3]) (rest := []) F (mtL_below l x13_363 p3 hz368) (fun _ _ _ _ h => h) (fun _ _ _ => trivial) kw_751 kw_749 kw_25 kw_750 ⟨by decide, by decide, by decide +kernel⟩ ⟨rfl, rfl, Nat.le_of_ble_eq_true rfl, Nat.le_of_ble_eq_true rfl⟩ rfl hl.1 rfl (Nat.le_of_ble_eq_true rfl) dL_build_368 ⟨(Nat.le_trans (by omega) s_cb), (Nat.le_trans (by omega) s_sb)⟩) hS (fun r_368 H locs er_368 ho hS => ?_)
        replace hP := pt_xkeep hP ho
        replace hw := hw r_368 er_368
        refine lv_istore (lv' := [(14, .int r_368), (13, .int x13_363), (0, .ref (ad 0)), (1, .ref b), (2, .int p3), (4, .int p5), (5, .int p6), (7, .ref a7), (10, .ref a10), (11, .int x11), (12, .int x12)]) hx hb dL_build_371 hl (by decide) rfl (fun ls hl => ?_)
        refine lv_iload hx hb dL_build_373 (lv_at hl 10 rfl) ?_
        refine lv_sipush (v := 200) hx hb dL_build_375 (by decide) ?_
        refine lv_icmp_le (tgt := 384) hx hb dL_build_378 (by decide) (fun hc378 => ?_) (fun hc378 => ?_)
        · replace hw := hw.1 hc378
          exact J384 x11 x12 x13_363 r_368 a7 f7 a10 g10 M _ _ _ ce (by omega) hw (pt_xpick hP [0, 1] rfl) (pt_xpickD hD [0, 1] (by decide) rfl) hS (lv_sub hl [2, 3, 4, 5, 6, 7, 8, 9, 10, 1, 0] rfl)
        · replace hw := hw.2 hc378
          refine lv_iconst (v := 0) hx hb dL_build_381 (by decide) ?_
          refine lv_istore (lv' := [(14, .int 0), (13, .int x13_363), (0, .ref (ad 0)), (1, .ref b), (2, .int p3), (4, .int p5), (5, .int p6), (7, .ref a7), (10, .ref a10), (11, .int x11), (12, .int x12)]) hx hb dL_build_382 hl (by decide) rfl (fun ls hl => ?_)
          exact J384 x11 x12 x13_363 0 a7 f7 a10 g10 M _ _ _ ce (by omega) hw (pt_xpick hP [0, 1] rfl) (pt_xpickD hD [0, 1] (by decide) rfl) hS (lv_sub hl [2, 3, 4, 5, 6, 7, 8, 9, 10, 1, 0] rfl)
  have L30 : ∀ (n30 : Nat) (x10 : Int32) (a6 : Nat) (f6 : Nat → Int32) (a7 : Nat) (f7 : Nat → Int32) (a8 : Nat) (g8 : Nat → Option Nat) (a9 : Nat) (g9 : Nat → Option Nat) (M : pt_M) (H : Heap) (locs : List Loc) (ls : Array Slot) (ce : Nat) (hce : ce + 4 * n30 ≤ 260), lpL_build_30 xL xs p3 p4 p5 p6 Q n30 x10 f6 f7 M → va_P D pt_cl (pt_W cA ad M ++ [(a6, .inl (cA 0, (Int32.toNatClampNeg p3), .inl f6)), (a7, .inl (cA 0, (Int32.toNatClampNeg p3), .inl f7)), (a8, .inl (cA 4, (Int32.toNatClampNeg p3), .inr (.inr (.inr (.inr g8))))), (a9, .inl (cA 4, (Int32.toNatClampNeg p3), .inr (.inr (.inr (.inr g9)))))]) H → va_D (pt_fr ad s.heap.size) (pt_W cA ad M ++ [(a6, .inl (cA 0, (Int32.toNatClampNeg p3), .inl f6)), (a7, .inl (cA 0, (Int32.toNatClampNeg p3), .inl f7)), (a8, .inl (cA 4, (Int32.toNatClampNeg p3), .inr (.inr (.inr (.inr g8))))), (a9, .inl (cA 4, (Int32.toNatClampNeg p3), .inr (.inr (.inr (.inr g9)))))]) → va_S (pt_fr ad s.heap.size) s.heap H locs → lv_has ls 19 [(0, .ref (ad 0)), (1, .ref b), (2, .int p3), (3, .int p4), (4, .int p5), (5, .int p6), (6, .ref a6), (7, .ref a7), (8, .ref a8), (9, .ref a9), (10, .int x10)] → W p l e (headSpec (Cond.code yL_build cL_build 19 (some (.array .int)) :: lw_all) ({ frames := 5, cells := 861, slots := 55104, locals := 109 } : Room)).room s m ([.ref (ad 0), .ref b, .int p3, .int p4, .int p5, .int p6] : List Value).toArray below meth c H locs ce (ce * 64) (MQ below (va_Qr (fun u : (Nat → Int32) × pt_M => Q u.1 u.2) (pf_buB D cA ad s.heap.size (Int32.toNatClampNeg p3)) (pt_fr ad s.heap.size)) ([.ref (ad 0), .ref b, .int p3, .int p4, .int p5, .int p6] : List Value).toArray s 861 55104 (pt_fr ad s.heap.size)) (F0 m 30 ls []) := by
    intro n30
    induction n30 with
    | zero => intro x10 a6 f6 a7 f7 a8 g8 a9 g9 M H locs ls ce hce hw; exact hw.elim
    | succ n30 ih30 =>
      have J308 : ∀ (x10 : Int32) (a6 : Nat) (f6 : Nat → Int32) (a7 : Nat) (f7 : Nat → Int32) (a8 : Nat) (g8 : Nat → Option Nat) (a9 : Nat) (g9 : Nat → Option Nat) (M : pt_M) (H : Heap) (locs : List Loc) (ls : Array Slot) (ce : Nat) (hce : ce + 2 + 4 * n30 ≤ 260), wjL_build_308 xL xs p3 p4 p5 p6 Q (lpL_build_30 xL xs p3 p4 p5 p6 Q n30) x10 f6 f7 M → va_P D pt_cl (pt_W cA ad M ++ [(a6, .inl (cA 0, (Int32.toNatClampNeg p3), .inl f6)), (a7, .inl (cA 0, (Int32.toNatClampNeg p3), .inl f7)), (a8, .inl (cA 4, (Int32.toNatClampNeg p3), .inr (.inr (.inr (.inr g8))))), (a9, .inl (cA 4, (Int32.toNatClampNeg p3), .inr (.inr (.inr (.inr g9)))))]) H → va_D (pt_fr ad s.heap.size) (pt_W cA ad M ++ [(a6, .inl (cA 0, (Int32.toNatClampNeg p3), .inl f6)), (a7, .inl (cA 0, (Int32.toNatClampNeg p3), .inl f7)), (a8, .inl (cA 4, (Int32.toNatClampNeg p3), .inr (.inr (.inr (.inr g8))))), (a9, .inl (cA 4, (Int32.toNatClampNeg p3), .inr (.inr (.inr (.inr g9)))))]) → va_S (pt_fr ad s.heap.size) s.heap H locs → lv_has ls 19 [(0, .ref (ad 0)), (1, .ref b), (2, .int p3), (3, .int p4), (4, .int p5), (5, .int p6), (6, .ref a6), (7, .ref a7), (8, .ref a8), (9, .ref a9), (10, .int x10)] → W p l e (headSpec (Cond.code yL_build cL_build 19 (some (.array .int)) :: lw_all) ({ frames := 5, cells := 861, slots := 55104, locals := 109 } : Room)).room s m ([.ref (ad 0), .ref b, .int p3, .int p4, .int p5, .int p6] : List Value).toArray below meth c H locs ce (ce * 64) (MQ below (va_Qr (fun u : (Nat → Int32) × pt_M => Q u.1 u.2) (pf_buB D cA ad s.heap.size (Int32.toNatClampNeg p3)) (pt_fr ad s.heap.size)) ([.ref (ad 0), .ref b, .int p3, .int p4, .int p5, .int p6] : List Value).toArray s 861 55104 (pt_fr ad s.heap.size)) (F0 m 308 ls []) := by
        intro x10 a6 f6 a7 f7 a8 g8 a9 g9 M H locs ls ce hce hw hP hD hS hl
        unfold wjL_build_308 at hw
        obtain ⟨x10_308, ex10_308⟩ : ∃ y : Int32, y = x10 + 1 := ⟨_, rfl⟩
        replace hw := hw x10_308 ex10_308
        refine lv_iinc (v := x10_308) (lv' := [(10, .int x10_308), (0, .ref (ad 0)), (1, .ref b), (2, .int p3), (3, .int p4), (4, .int p5), (5, .int p6), (6, .ref a6), (7, .ref a7), (8, .ref a8), (9, .ref a9)]) hx hb dL_build_308 hl (k := 10) rfl (by rw [ex10_308]; rfl) (by decide) rfl (fun ls hl => ?_)
        refine lv_goto (tgt := 30) hx hb dL_build_311 (by decide) ?_
        exact ih30 x10_308 a6 f6 a7 f7 a8 g8 a9 g9 M _ _ _ ce (by omega) hw (pt_xpick hP [0, 1, 2, 3] rfl) (pt_xpickD hD [0, 1, 2, 3] (by decide) rfl) hS (lv_sub hl [1, 2, 3, 4, 5, 6, 7, 8, 9, 10, 0] rfl)
      have J237 : ∀ (x10 : Int32) (a6 : Nat) (f6 : Nat → Int32) (a7 : Nat) (f7 : Nat → Int32) (a8 : Nat) (g8 : Nat → Option Nat) (a9 : Nat) (g9 : Nat → Option Nat) (as2 : Nat) (fs2 : Nat → Int32) (aL8 : Nat) (fL8 : Nat → Int32) (hL8 : g8 (Int32.toNatClampNeg x10) = some aL8) (M : pt_M) (H : Heap) (locs : List Loc) (ls : Array Slot) (ce : Nat) (hce : ce + 2 + 4 * n30 ≤ 260), wjL_build_237 xL xs p3 p4 p5 p6 Q (lpL_build_30 xL xs p3 p4 p5 p6 Q n30) x10 f6 f7 fs2 fL8 M → va_P D pt_cl (pt_W cA ad M ++ [(a6, .inl (cA 0, (Int32.toNatClampNeg p3), .inl f6)), (a7, .inl (cA 0, (Int32.toNatClampNeg p3), .inl f7)), (a8, .inl (cA 4, (Int32.toNatClampNeg p3), .inr (.inr (.inr (.inr g8))))), (a9, .inl (cA 4, (Int32.toNatClampNeg p3), .inr (.inr (.inr (.inr g9))))), (as2, .inl (cA 0, 3, .inl fs2)), (aL8, .inl (cA 0, 3, .inl fL8))]) H → va_D (pt_fr ad s.heap.size) (pt_W cA ad M ++ [(a6, .inl (cA 0, (Int32.toNatClampNeg p3), .inl f6)), (a7, .inl (cA 0, (Int32.toNatClampNeg p3), .inl f7)), (a8, .inl (cA 4, (Int32.toNatClampNeg p3), .inr (.inr (.inr (.inr g8))))), (a9, .inl (cA 4, (Int32.toNatClampNeg p3), .inr (.inr (.inr (.inr g9))))), (as2, .inl (cA 0, 3, .inl fs2)), (aL8, .inl (cA 0, 3, .inl fL8))]) → va_S (pt_fr ad s.heap.size) s.heap H locs → lv_has ls 19 [(0, .ref (ad 0)), (1, .ref b), (2, .int p3), (3, .int p4), (4, .int p5), (5, .int p6), (6, .ref a6), (7, .ref a7), (8, .ref a8), (9, .ref a9), (10, .int x10)] → W p l e (headSpec (Cond.code yL_build cL_build 19 (some (.array .int)) :: lw_all) ({ frames := 5, cells := 861, slots := 55104, locals := 109 } : Room)).room s m ([.ref (ad 0), .ref b, .int p3, .int p4, .int p5, .int p6] : List Value).toArray below meth c H locs ce (ce * 64) (MQ below (va_Qr (fun u : (Nat → Int32) × pt_M => Q u.1 u.2) (pf_buB D cA ad s.heap.size (Int32.toNatClampNeg p3)) (pt_fr ad s.heap.size)) ([.ref (ad 0), .ref b, .int p3, .int p4, .int p5, .int p6] : List Value).toArray s 861 55104 (pt_fr ad s.heap.size)) (F0 m 237 ls [.ref as2, .int x10, .ref a9]) := by
        intro x10 a6 f6 a7 f7 a8 g8 a9 g9 as2 fs2 aL8 fL8 hL8 M H locs ls ce hce hw hP hD hS hl
        unfold wjL_build_237 at hw
        have hv237 := hw.1
        replace hw := hw.2
        refine pt_xastA (Y' := fun f1 => [(a6, .inl (cA 0, (Int32.toNatClampNeg p3), .inl f6)), (a7, .inl (cA 0, (Int32.toNatClampNeg p3), .inl f7)), (a8, .inl (cA 4, (Int32.toNatClampNeg p3), .inr (.inr (.inr (.inr g8))))), (a9, .inl (cA 4, (Int32.toNatClampNeg p3), .inr (.inr (.inr (.inr f1))))), (as2, .inl (cA 0, 3, .inl fs2)), (aL8, .inl (cA 0, 3, .inl fL8))]) F hAA hP hD hS 3 4 rfl rfl hv237 dL_build_237 (fun _ => rfl) (fun g_237 H locs hg237 hP hD hS => ?_)
        refine lv_aload hx hb dL_build_238 (lv_at hl 7 rfl) ?_
        refine lv_iload hx hb dL_build_240 (lv_at hl 10 rfl) ?_
        have hv242 := hw.1
        replace hw := hw.2
        refine pt_xild F hP 1 rfl hv242 dL_build_242 ?_
        refine lv_iconst (v := 2) hx hb dL_build_243 (by decide) ?_
        refine lv_icmp_le (tgt := 250) hx hb dL_build_244 (by decide) (fun hc244 => ?_) (fun hc244 => ?_)
        · replace hw := hw.1 hc244
          refine lv_aload_n hx hb dL_build_250 rfl (lv_at hl 0 rfl) ?_
          refine lv_iload hx hb dL_build_251 (lv_at hl 10 rfl) ?_
          refine lv_iconst (v := 0) hx hb dL_build_253 (by decide) ?_
          refine lv_aload hx hb dL_build_254 (lv_at hl 8 rfl) ?_
          refine lv_iload hx hb dL_build_256 (lv_at hl 10 rfl) ?_
          have hv258 := hw.1
          replace hw := hw.2
          refine pt_xaldA F hAA hP 2 rfl hL8 hv258 dL_build_258 ?_
          refine lv_iconst (v := 0) hx hb dL_build_259 (by decide) ?_
          refine pt_xild F hP 5 rfl (pt_inL (by decide) (by decide)) dL_build_260 ?_
          refine lv_aload hx hb dL_build_261 (lv_at hl 8 rfl) ?_
          refine lv_iload hx hb dL_build_263 (lv_at hl 10 rfl) ?_
          have hv265 := hw.1
          replace hw := hw.2
          refine pt_xaldA F hAA hP 2 rfl hL8 hv265 dL_build_265 ?_
          refine lv_iconst (v := 1) hx hb dL_build_266 (by decide) ?_
          refine pt_xild F hP 5 rfl (pt_inL (by decide) (by decide)) dL_build_267 ?_
          refine lv_aload hx hb dL_build_268 (lv_at hl 8 rfl) ?_
          refine lv_iload hx hb dL_build_270 (lv_at hl 10 rfl) ?_
          have hv272 := hw.1
          replace hw := hw.2
          refine pt_xaldA F hAA hP 2 rfl hL8 hv272 dL_build_272 ?_
          refine lv_iconst (v := 2) hx hb dL_build_273 (by decide) ?_
          refine pt_xild F hP 5 rfl (pt_inL (by decide) (by decide)) dL_build_274 ?_
          refine pt_calli (pt_runV (n := 5) (As := [.int x10, .int 0, .int (fL8 (Int32.toNatClampNeg 0)), .int (fL8 (Int32.toNatClampNeg 1)), .int (fL8 (Int32.toNatClampNeg 2))]) (rest := []) F (pt_xP.mp hP).1 (pt_c7 _ pt_k0) (pt_l7 pt_k0) rfl (mtX7_setDoing l D cA ad hI _ x10 0 (fL8 (Int32.toNatClampNeg 0)) (fL8 (Int32.toNatClampNeg 1)) (fL8 (Int32.toNatClampNeg 2)) M _ hw) kw_790 kw_787 kw_26 kw_788 kw_789 ⟨by decide, by decide, by decide +kernel⟩ ⟨rfl, rfl, Nat.le_of_ble_eq_true rfl, Nat.le_of_ble_eq_true rfl⟩ rfl hl.1 rfl (Nat.le_of_ble_eq_true rfl) dL_build_275 ⟨(Nat.le_trans (by omega) s_cb), (Nat.le_trans (by omega) s_sb)⟩) hS hAf (fun r_275 M_275 H_ locs hw hP1 hS _ ho => ?_)
          replace hP := pt_xback hP hD hP1 ho
          replace hD := pt_xeng (M1 := M_275) hD
          clear hP1 ho
          refine lv_pop hx hb dL_build_278 rfl ?_
          refine lv_aload_n hx hb dL_build_279 rfl (lv_at hl 0 rfl) ?_
          refine lv_iload hx hb dL_build_280 (lv_at hl 10 rfl) ?_
          refine lv_iconst (v := 1) hx hb dL_build_282 (by decide) ?_
          refine lv_aload hx hb dL_build_283 (lv_at hl 9 rfl) ?_
          refine lv_iload hx hb dL_build_285 (lv_at hl 10 rfl) ?_
          have hv287 := hw.1
          replace hw := hw.2
          refine pt_xaldA F hAA hP 3 rfl hg237 hv287 dL_build_287 ?_
          refine lv_iconst (v := 0) hx hb dL_build_288 (by decide) ?_
          refine pt_xild F hP 4 rfl (pt_inL (by decide) (by decide)) dL_build_289 ?_
          refine lv_aload hx hb dL_build_290 (lv_at hl 9 rfl) ?_
          refine lv_iload hx hb dL_build_292 (lv_at hl 10 rfl) ?_
          have hv294 := hw.1
          replace hw := hw.2
          refine pt_xaldA F hAA hP 3 rfl hg237 hv294 dL_build_294 ?_
          refine lv_iconst (v := 1) hx hb dL_build_295 (by decide) ?_
          refine pt_xild F hP 4 rfl (pt_inL (by decide) (by decide)) dL_build_296 ?_
          refine lv_aload hx hb dL_build_297 (lv_at hl 9 rfl) ?_
          refine lv_iload hx hb dL_build_299 (lv_at hl 10 rfl) ?_
          have hv301 := hw.1
          replace hw := hw.2
          refine pt_xaldA F hAA hP 3 rfl hg237 hv301 dL_build_301 ?_
          refine lv_iconst (v := 2) hx hb dL_build_302 (by decide) ?_
          refine pt_xild F hP 4 rfl (pt_inL (by decide) (by decide)) dL_build_303 ?_
          refine pt_calli (pt_runV (n := 5) (As := [.int x10, .int 1, .int (fs2 (Int32.toNatClampNeg 0)), .int (fs2 (Int32.toNatClampNeg 1)), .int (fs2 (Int32.toNatClampNeg 2))]) (rest := []) F (pt_xP.mp hP).1 (pt_c7 _ pt_k0) (pt_l7 pt_k0) rfl (mtX7_setDoing l D cA ad hI _ x10 1 (fs2 (Int32.toNatClampNeg 0)) (fs2 (Int32.toNatClampNeg 1)) (fs2 (Int32.toNatClampNeg 2)) M_275 _ hw) kw_790 kw_787 kw_26 kw_788 kw_789 ⟨by decide, by decide, by decide +kernel⟩ ⟨rfl, rfl, Nat.le_of_ble_eq_true rfl, Nat.le_of_ble_eq_true rfl⟩ rfl hl.1 rfl (Nat.le_of_ble_eq_true rfl) dL_build_304 ⟨(Nat.le_trans (by omega) s_cb), (Nat.le_trans (by omega) s_sb)⟩) hS hAf (fun r_304 M_304 H_ locs hw hP1 hS _ ho => ?_)
          replace hP := pt_xback hP hD hP1 ho
          replace hD := pt_xeng (M1 := M_304) hD
          clear hP1 ho
          refine lv_pop hx hb dL_build_307 rfl ?_
          exact J308 x10 a6 f6 a7 f7 a8 g8 a9 g_237 M_304 _ _ _ ce (by omega) hw (pt_xpick hP [0, 1, 2, 3] rfl) (pt_xpickD hD [0, 1, 2, 3] (by decide) rfl) hS (lv_sub hl [0, 1, 2, 3, 4, 5, 6, 7, 8, 9, 10] rfl)
        · replace hw := hw.2 hc244
          refine lv_goto (tgt := 308) hx hb dL_build_247 (by decide) ?_
          exact J308 x10 a6 f6 a7 f7 a8 g8 a9 g_237 M _ _ _ ce (by omega) hw (pt_xpick hP [0, 1, 2, 3] rfl) (pt_xpickD hD [0, 1, 2, 3] (by decide) rfl) hS (lv_sub hl [0, 1, 2, 3, 4, 5, 6, 7, 8, 9, 10] rfl)
      have J196 : ∀ (x10 : Int32) (x11 : Int32) (a6 : Nat) (f6 : Nat → Int32) (a7 : Nat) (f7 : Nat → Int32) (a8 : Nat) (g8 : Nat → Option Nat) (a9 : Nat) (g9 : Nat → Option Nat) (as2 : Nat) (fs2 : Nat → Int32) (M : pt_M) (H : Heap) (locs : List Loc) (ls : Array Slot) (ce : Nat) (hce : ce + 3 + 4 * n30 ≤ 260), wjL_build_196 xL xs p3 p4 p5 p6 Q (lpL_build_30 xL xs p3 p4 p5 p6 Q n30) x10 x11 f6 f7 fs2 M → va_P D pt_cl (pt_W cA ad M ++ [(a6, .inl (cA 0, (Int32.toNatClampNeg p3), .inl f6)), (a7, .inl (cA 0, (Int32.toNatClampNeg p3), .inl f7)), (a8, .inl (cA 4, (Int32.toNatClampNeg p3), .inr (.inr (.inr (.inr g8))))), (a9, .inl (cA 4, (Int32.toNatClampNeg p3), .inr (.inr (.inr (.inr g9))))), (as2, .inl (cA 0, 3, .inl fs2))]) H → va_D (pt_fr ad s.heap.size) (pt_W cA ad M ++ [(a6, .inl (cA 0, (Int32.toNatClampNeg p3), .inl f6)), (a7, .inl (cA 0, (Int32.toNatClampNeg p3), .inl f7)), (a8, .inl (cA 4, (Int32.toNatClampNeg p3), .inr (.inr (.inr (.inr g8))))), (a9, .inl (cA 4, (Int32.toNatClampNeg p3), .inr (.inr (.inr (.inr g9))))), (as2, .inl (cA 0, 3, .inl fs2))]) → va_S (pt_fr ad s.heap.size) s.heap H locs → lv_has ls 19 [(0, .ref (ad 0)), (1, .ref b), (2, .int p3), (3, .int p4), (4, .int p5), (5, .int p6), (6, .ref a6), (7, .ref a7), (8, .ref a8), (9, .ref a9), (10, .int x10), (11, .int x11)] → W p l e (headSpec (Cond.code yL_build cL_build 19 (some (.array .int)) :: lw_all) ({ frames := 5, cells := 861, slots := 55104, locals := 109 } : Room)).room s m ([.ref (ad 0), .ref b, .int p3, .int p4, .int p5, .int p6] : List Value).toArray below meth c H locs ce (ce * 64) (MQ below (va_Qr (fun u : (Nat → Int32) × pt_M => Q u.1 u.2) (pf_buB D cA ad s.heap.size (Int32.toNatClampNeg p3)) (pt_fr ad s.heap.size)) ([.ref (ad 0), .ref b, .int p3, .int p4, .int p5, .int p6] : List Value).toArray s 861 55104 (pt_fr ad s.heap.size)) (F0 m 196 ls [.ref as2, .int x10, .ref a8]) := by
        intro x10 x11 a6 f6 a7 f7 a8 g8 a9 g9 as2 fs2 M H locs ls ce hce hw hP hD hS hl
        unfold wjL_build_196 at hw
        have hv196 := hw.1
        replace hw := hw.2
        refine pt_xastA (Y' := fun f1 => [(a6, .inl (cA 0, (Int32.toNatClampNeg p3), .inl f6)), (a7, .inl (cA 0, (Int32.toNatClampNeg p3), .inl f7)), (a8, .inl (cA 4, (Int32.toNatClampNeg p3), .inr (.inr (.inr (.inr f1))))), (a9, .inl (cA 4, (Int32.toNatClampNeg p3), .inr (.inr (.inr (.inr g9))))), (as2, .inl (cA 0, 3, .inl fs2))]) F hAA hP hD hS 2 4 rfl rfl hv196 dL_build_196 (fun _ => rfl) (fun g_196 H locs hg196 hP hD hS => ?_)
        refine lv_aload hx hb dL_build_197 (lv_at hl 9 rfl) ?_
        refine lv_iload hx hb dL_build_199 (lv_at hl 10 rfl) ?_
        refine lv_aload hx hb dL_build_201 (lv_at hl 7 rfl) ?_
        refine lv_iload hx hb dL_build_203 (lv_at hl 10 rfl) ?_
        have hv205 := hw.1
        replace hw := hw.2
        refine pt_xild F hP 1 rfl hv205 dL_build_205 ?_
        refine lv_iconst (v := 2) hx hb dL_build_206 (by decide) ?_
        refine lv_icmp_le (tgt := 228) hx hb dL_build_207 (by decide) (fun hc207 => ?_) (fun hc207 => ?_)
        · replace hw := hw.1 hc207
          refine lv_iload hx hb dL_build_228 (lv_at hl 11 rfl) ?_
          refine lv_iconst (v := 4) hx hb dL_build_230 (by decide) ?_
          refine lv_ishr hx hb dL_build_231 ?_
          refine lv_iload hx hb dL_build_232 (lv_at hl 4 rfl) ?_
          refine pt_callq (pt_runP (n := 2) (As := [.int (x11 >>> (4 &&& 31)), .int p5]) (rest := [.int x10, .ref a9]) F (mtL_doing l D cA _ (x11 >>> (4 &&& 31)) p5 _ hw) pf_dblind (fun U hU hW => ⟨by rw [hU], va_K.moved hW.alike F.2⟩) kw_786 kw_784 kw_25 kw_785 ⟨by decide, by decide, by decide +kernel⟩ ⟨rfl, rfl, Nat.le_of_ble_eq_true rfl, Nat.le_of_ble_eq_true rfl⟩ rfl hl.1 rfl (Nat.le_of_ble_eq_true rfl) dL_build_234 ⟨(Nat.le_trans (by omega) s_cb), (Nat.le_trans (by omega) s_sb)⟩) hP hD hS hA (fun f_234 q_234 H locs hw hP hD hS => ?_)
          replace hP : va_P D pt_cl (pt_W cA ad M ++ [(a6, .inl (cA 0, (Int32.toNatClampNeg p3), .inl f6)), (a7, .inl (cA 0, (Int32.toNatClampNeg p3), .inl f7)), (a8, .inl (cA 4, (Int32.toNatClampNeg p3), .inr (.inr (.inr (.inr g_196))))), (a9, .inl (cA 4, (Int32.toNatClampNeg p3), .inr (.inr (.inr (.inr g9))))), (as2, .inl (cA 0, 3, .inl fs2)), (q_234, .inl (cA 0, 3, .inl f_234))]) H := hP
          replace hD : va_D (pt_fr ad s.heap.size) (pt_W cA ad M ++ [(a6, .inl (cA 0, (Int32.toNatClampNeg p3), .inl f6)), (a7, .inl (cA 0, (Int32.toNatClampNeg p3), .inl f7)), (a8, .inl (cA 4, (Int32.toNatClampNeg p3), .inr (.inr (.inr (.inr g_196))))), (a9, .inl (cA 4, (Int32.toNatClampNeg p3), .inr (.inr (.inr (.inr g9))))), (as2, .inl (cA 0, 3, .inl fs2)), (q_234, .inl (cA 0, 3, .inl f_234))]) := hD
          refine W.widen (k := (ce + 1)) (n := ((ce + 1) * 64)) (by omega) (by omega) ?_
          exact J237 x10 a6 f6 a7 f7 a8 g_196 a9 g9 q_234 f_234 as2 fs2 hg196 M _ _ _ (ce + 1) (by omega) hw (pt_xpick hP [0, 1, 2, 3, 5, 4] rfl) (pt_xpickD hD [0, 1, 2, 3, 5, 4] (by decide) rfl) hS (lv_sub hl [0, 1, 2, 3, 4, 5, 6, 7, 8, 9, 10] rfl)
        · replace hw := hw.2 hc207
          refine lv_iconst (v := 3) hx hb dL_build_210 (by decide) ?_
          refine pt_xnew (N := 3) F hP hD hS hA kw_88 (by decide) (by decide) (by decide) (Nat.le_trans (by omega) s_cb) (Nat.le_trans (by omega) s_sb) dL_build_211 (fun q_211 H hP hD hS => ?_)
          replace hP : va_P D pt_cl (pt_W cA ad M ++ [(a6, .inl (cA 0, (Int32.toNatClampNeg p3), .inl f6)), (a7, .inl (cA 0, (Int32.toNatClampNeg p3), .inl f7)), (a8, .inl (cA 4, (Int32.toNatClampNeg p3), .inr (.inr (.inr (.inr g_196))))), (a9, .inl (cA 4, (Int32.toNatClampNeg p3), .inr (.inr (.inr (.inr g9))))), (as2, .inl (cA 0, 3, .inl fs2)), (q_211, .inl (cA 0, 3, .inl (fun _ => 0)))]) H := hP
          replace hD : va_D (pt_fr ad s.heap.size) (pt_W cA ad M ++ [(a6, .inl (cA 0, (Int32.toNatClampNeg p3), .inl f6)), (a7, .inl (cA 0, (Int32.toNatClampNeg p3), .inl f7)), (a8, .inl (cA 4, (Int32.toNatClampNeg p3), .inr (.inr (.inr (.inr g_196))))), (a9, .inl (cA 4, (Int32.toNatClampNeg p3), .inr (.inr (.inr (.inr g9))))), (as2, .inl (cA 0, 3, .inl fs2)), (q_211, .inl (cA 0, 3, .inl (fun _ => 0)))]) := hD
          refine W.widen (k := (ce + 1)) (n := ((ce + 1) * 64)) (by omega) (by omega) ?_
          refine lv_dup hx hb dL_build_213 rfl ?_
          refine lv_iconst (v := 0) hx hb dL_build_214 (by decide) ?_
          refine lv_iconst (v := 0) hx hb dL_build_215 (by decide) ?_
          refine pt_xist (Y' := fun f1 => [(a6, .inl (cA 0, (Int32.toNatClampNeg p3), .inl f6)), (a7, .inl (cA 0, (Int32.toNatClampNeg p3), .inl f7)), (a8, .inl (cA 4, (Int32.toNatClampNeg p3), .inr (.inr (.inr (.inr g_196))))), (a9, .inl (cA 4, (Int32.toNatClampNeg p3), .inr (.inr (.inr (.inr g9))))), (as2, .inl (cA 0, 3, .inl fs2)), (q_211, .inl (cA 0, 3, .inl f1))]) F hP hD hS 5 rfl (pt_inL (by decide) (by decide)) dL_build_216 (fun _ => rfl) (fun f_216 H locs ef_216 hP hD hS => ?_)
          replace hw := hw f_216 ef_216
          refine lv_dup hx hb dL_build_217 rfl ?_
          refine lv_iconst (v := 1) hx hb dL_build_218 (by decide) ?_
          refine lv_iconst (v := 0) hx hb dL_build_219 (by decide) ?_
          refine pt_xist (Y' := fun f1 => [(a6, .inl (cA 0, (Int32.toNatClampNeg p3), .inl f6)), (a7, .inl (cA 0, (Int32.toNatClampNeg p3), .inl f7)), (a8, .inl (cA 4, (Int32.toNatClampNeg p3), .inr (.inr (.inr (.inr g_196))))), (a9, .inl (cA 4, (Int32.toNatClampNeg p3), .inr (.inr (.inr (.inr g9))))), (as2, .inl (cA 0, 3, .inl fs2)), (q_211, .inl (cA 0, 3, .inl f1))]) F hP hD hS 5 rfl (pt_inL (by decide) (by decide)) dL_build_220 (fun _ => rfl) (fun f_220 H locs ef_220 hP hD hS => ?_)
          replace hw := hw f_220 ef_220
          refine lv_dup hx hb dL_build_221 rfl ?_
          refine lv_iconst (v := 2) hx hb dL_build_222 (by decide) ?_
          refine lv_iconst (v := 0) hx hb dL_build_223 (by decide) ?_
          refine pt_xist (Y' := fun f1 => [(a6, .inl (cA 0, (Int32.toNatClampNeg p3), .inl f6)), (a7, .inl (cA 0, (Int32.toNatClampNeg p3), .inl f7)), (a8, .inl (cA 4, (Int32.toNatClampNeg p3), .inr (.inr (.inr (.inr g_196))))), (a9, .inl (cA 4, (Int32.toNatClampNeg p3), .inr (.inr (.inr (.inr g9))))), (as2, .inl (cA 0, 3, .inl fs2)), (q_211, .inl (cA 0, 3, .inl f1))]) F hP hD hS 5 rfl (pt_inL (by decide) (by decide)) dL_build_224 (fun _ => rfl) (fun f_224 H locs ef_224 hP hD hS => ?_)
          replace hw := hw f_224 ef_224
          refine lv_goto (tgt := 237) hx hb dL_build_225 (by decide) ?_
          exact J237 x10 a6 f6 a7 f7 a8 g_196 a9 g9 q_211 f_224 as2 fs2 hg196 M _ _ _ (ce + 1) (by omega) hw (pt_xpick hP [0, 1, 2, 3, 5, 4] rfl) (pt_xpickD hD [0, 1, 2, 3, 5, 4] (by decide) rfl) hS (lv_sub hl [0, 1, 2, 3, 4, 5, 6, 7, 8, 9, 10] rfl)
      have J156 : ∀ (x10 : Int32) (x11 : Int32) (a6 : Nat) (f6 : Nat → Int32) (a7 : Nat) (f7 : Nat → Int32) (a8 : Nat) (g8 : Nat → Option Nat) (a9 : Nat) (g9 : Nat → Option Nat) (M : pt_M) (H : Heap) (locs : List Loc) (ls : Array Slot) (ce : Nat) (hce : ce + 4 + 4 * n30 ≤ 260), wjL_build_156 xL xs p3 p4 p5 p6 Q (lpL_build_30 xL xs p3 p4 p5 p6 Q n30) x10 x11 f6 f7 M → va_P D pt_cl (pt_W cA ad M ++ [(a6, .inl (cA 0, (Int32.toNatClampNeg p3), .inl f6)), (a7, .inl (cA 0, (Int32.toNatClampNeg p3), .inl f7)), (a8, .inl (cA 4, (Int32.toNatClampNeg p3), .inr (.inr (.inr (.inr g8))))), (a9, .inl (cA 4, (Int32.toNatClampNeg p3), .inr (.inr (.inr (.inr g9)))))]) H → va_D (pt_fr ad s.heap.size) (pt_W cA ad M ++ [(a6, .inl (cA 0, (Int32.toNatClampNeg p3), .inl f6)), (a7, .inl (cA 0, (Int32.toNatClampNeg p3), .inl f7)), (a8, .inl (cA 4, (Int32.toNatClampNeg p3), .inr (.inr (.inr (.inr g8))))), (a9, .inl (cA 4, (Int32.toNatClampNeg p3), .inr (.inr (.inr (.inr g9)))))]) → va_S (pt_fr ad s.heap.size) s.heap H locs → lv_has ls 19 [(0, .ref (ad 0)), (1, .ref b), (2, .int p3), (3, .int p4), (4, .int p5), (5, .int p6), (6, .ref a6), (7, .ref a7), (8, .ref a8), (9, .ref a9), (10, .int x10), (11, .int x11)] → W p l e (headSpec (Cond.code yL_build cL_build 19 (some (.array .int)) :: lw_all) ({ frames := 5, cells := 861, slots := 55104, locals := 109 } : Room)).room s m ([.ref (ad 0), .ref b, .int p3, .int p4, .int p5, .int p6] : List Value).toArray below meth c H locs ce (ce * 64) (MQ below (va_Qr (fun u : (Nat → Int32) × pt_M => Q u.1 u.2) (pf_buB D cA ad s.heap.size (Int32.toNatClampNeg p3)) (pt_fr ad s.heap.size)) ([.ref (ad 0), .ref b, .int p3, .int p4, .int p5, .int p6] : List Value).toArray s 861 55104 (pt_fr ad s.heap.size)) (F0 m 156 ls []) := by
        intro x10 x11 a6 f6 a7 f7 a8 g8 a9 g9 M H locs ls ce hce hw hP hD hS hl
        unfold wjL_build_156 at hw
        refine lv_aload hx hb dL_build_156 (lv_at hl 8 rfl) ?_
        refine lv_iload hx hb dL_build_158 (lv_at hl 10 rfl) ?_
        refine lv_aload hx hb dL_build_160 (lv_at hl 7 rfl) ?_
        refine lv_iload hx hb dL_build_162 (lv_at hl 10 rfl) ?_
        have hv164 := hw.1
        replace hw := hw.2
        refine pt_xild F hP 1 rfl hv164 dL_build_164 ?_
        refine lv_iconst (v := 2) hx hb dL_build_165 (by decide) ?_
        refine lv_icmp_le (tgt := 187) hx hb dL_build_166 (by decide) (fun hc166 => ?_) (fun hc166 => ?_)
        · replace hw := hw.1 hc166
          refine lv_iload hx hb dL_build_187 (lv_at hl 11 rfl) ?_
          refine lv_iconst (v := 2) hx hb dL_build_189 (by decide) ?_
          refine lv_ishr hx hb dL_build_190 ?_
          refine lv_iload hx hb dL_build_191 (lv_at hl 4 rfl) ?_
          refine pt_callq (pt_runP (n := 2) (As := [.int (x11 >>> (2 &&& 31)), .int p5]) (rest := [.int x10, .ref a8]) F (mtL_doing l D cA _ (x11 >>> (2 &&& 31)) p5 _ hw) pf_dblind (fun U hU hW => ⟨by rw [hU], va_K.moved hW.alike F.2⟩) kw_786 kw_784 kw_25 kw_785 ⟨by decide, by decide, by decide +kernel⟩ ⟨rfl, rfl, Nat.le_of_ble_eq_true rfl, Nat.le_of_ble_eq_true rfl⟩ rfl hl.1 rfl (Nat.le_of_ble_eq_true rfl) dL_build_193 ⟨(Nat.le_trans (by omega) s_cb), (Nat.le_trans (by omega) s_sb)⟩) hP hD hS hA (fun f_193 q_193 H locs hw hP hD hS => ?_)
          replace hP : va_P D pt_cl (pt_W cA ad M ++ [(a6, .inl (cA 0, (Int32.toNatClampNeg p3), .inl f6)), (a7, .inl (cA 0, (Int32.toNatClampNeg p3), .inl f7)), (a8, .inl (cA 4, (Int32.toNatClampNeg p3), .inr (.inr (.inr (.inr g8))))), (a9, .inl (cA 4, (Int32.toNatClampNeg p3), .inr (.inr (.inr (.inr g9))))), (q_193, .inl (cA 0, 3, .inl f_193))]) H := hP
          replace hD : va_D (pt_fr ad s.heap.size) (pt_W cA ad M ++ [(a6, .inl (cA 0, (Int32.toNatClampNeg p3), .inl f6)), (a7, .inl (cA 0, (Int32.toNatClampNeg p3), .inl f7)), (a8, .inl (cA 4, (Int32.toNatClampNeg p3), .inr (.inr (.inr (.inr g8))))), (a9, .inl (cA 4, (Int32.toNatClampNeg p3), .inr (.inr (.inr (.inr g9))))), (q_193, .inl (cA 0, 3, .inl f_193))]) := hD
          refine W.widen (k := (ce + 1)) (n := ((ce + 1) * 64)) (by omega) (by omega) ?_
          exact J196 x10 x11 a6 f6 a7 f7 a8 g8 a9 g9 q_193 f_193 M _ _ _ (ce + 1) (by omega) hw (pt_xpick hP [0, 1, 2, 3, 4] rfl) (pt_xpickD hD [0, 1, 2, 3, 4] (by decide) rfl) hS (lv_sub hl [0, 1, 2, 3, 4, 5, 6, 7, 8, 9, 10, 11] rfl)
        · replace hw := hw.2 hc166
          refine lv_iconst (v := 3) hx hb dL_build_169 (by decide) ?_
          refine pt_xnew (N := 3) F hP hD hS hA kw_88 (by decide) (by decide) (by decide) (Nat.le_trans (by omega) s_cb) (Nat.le_trans (by omega) s_sb) dL_build_170 (fun q_170 H hP hD hS => ?_)
          replace hP : va_P D pt_cl (pt_W cA ad M ++ [(a6, .inl (cA 0, (Int32.toNatClampNeg p3), .inl f6)), (a7, .inl (cA 0, (Int32.toNatClampNeg p3), .inl f7)), (a8, .inl (cA 4, (Int32.toNatClampNeg p3), .inr (.inr (.inr (.inr g8))))), (a9, .inl (cA 4, (Int32.toNatClampNeg p3), .inr (.inr (.inr (.inr g9))))), (q_170, .inl (cA 0, 3, .inl (fun _ => 0)))]) H := hP
          replace hD : va_D (pt_fr ad s.heap.size) (pt_W cA ad M ++ [(a6, .inl (cA 0, (Int32.toNatClampNeg p3), .inl f6)), (a7, .inl (cA 0, (Int32.toNatClampNeg p3), .inl f7)), (a8, .inl (cA 4, (Int32.toNatClampNeg p3), .inr (.inr (.inr (.inr g8))))), (a9, .inl (cA 4, (Int32.toNatClampNeg p3), .inr (.inr (.inr (.inr g9))))), (q_170, .inl (cA 0, 3, .inl (fun _ => 0)))]) := hD
          refine W.widen (k := (ce + 1)) (n := ((ce + 1) * 64)) (by omega) (by omega) ?_
          refine lv_dup hx hb dL_build_172 rfl ?_
          refine lv_iconst (v := 0) hx hb dL_build_173 (by decide) ?_
          refine lv_iconst (v := 0) hx hb dL_build_174 (by decide) ?_
          refine pt_xist (Y' := fun f1 => [(a6, .inl (cA 0, (Int32.toNatClampNeg p3), .inl f6)), (a7, .inl (cA 0, (Int32.toNatClampNeg p3), .inl f7)), (a8, .inl (cA 4, (Int32.toNatClampNeg p3), .inr (.inr (.inr (.inr g8))))), (a9, .inl (cA 4, (Int32.toNatClampNeg p3), .inr (.inr (.inr (.inr g9))))), (q_170, .inl (cA 0, 3, .inl f1))]) F hP hD hS 4 rfl (pt_inL (by decide) (by decide)) dL_build_175 (fun _ => rfl) (fun f_175 H locs ef_175 hP hD hS => ?_)
          replace hw := hw f_175 ef_175
          refine lv_dup hx hb dL_build_176 rfl ?_
          refine lv_iconst (v := 1) hx hb dL_build_177 (by decide) ?_
          refine lv_iconst (v := 0) hx hb dL_build_178 (by decide) ?_
          refine pt_xist (Y' := fun f1 => [(a6, .inl (cA 0, (Int32.toNatClampNeg p3), .inl f6)), (a7, .inl (cA 0, (Int32.toNatClampNeg p3), .inl f7)), (a8, .inl (cA 4, (Int32.toNatClampNeg p3), .inr (.inr (.inr (.inr g8))))), (a9, .inl (cA 4, (Int32.toNatClampNeg p3), .inr (.inr (.inr (.inr g9))))), (q_170, .inl (cA 0, 3, .inl f1))]) F hP hD hS 4 rfl (pt_inL (by decide) (by decide)) dL_build_179 (fun _ => rfl) (fun f_179 H locs ef_179 hP hD hS => ?_)
          replace hw := hw f_179 ef_179
          refine lv_dup hx hb dL_build_180 rfl ?_
          refine lv_iconst (v := 2) hx hb dL_build_181 (by decide) ?_
          refine lv_iconst (v := 0) hx hb dL_build_182 (by decide) ?_
          refine pt_xist (Y' := fun f1 => [(a6, .inl (cA 0, (Int32.toNatClampNeg p3), .inl f6)), (a7, .inl (cA 0, (Int32.toNatClampNeg p3), .inl f7)), (a8, .inl (cA 4, (Int32.toNatClampNeg p3), .inr (.inr (.inr (.inr g8))))), (a9, .inl (cA 4, (Int32.toNatClampNeg p3), .inr (.inr (.inr (.inr g9))))), (q_170, .inl (cA 0, 3, .inl f1))]) F hP hD hS 4 rfl (pt_inL (by decide) (by decide)) dL_build_183 (fun _ => rfl) (fun f_183 H locs ef_183 hP hD hS => ?_)
          replace hw := hw f_183 ef_183
          refine lv_goto (tgt := 196) hx hb dL_build_184 (by decide) ?_
          exact J196 x10 x11 a6 f6 a7 f7 a8 g8 a9 g9 q_170 f_183 M _ _ _ (ce + 1) (by omega) hw (pt_xpick hP [0, 1, 2, 3, 4] rfl) (pt_xpickD hD [0, 1, 2, 3, 4] (by decide) rfl) hS (lv_sub hl [0, 1, 2, 3, 4, 5, 6, 7, 8, 9, 10, 11] rfl)
      have J141 : ∀ (x10 : Int32) (x11 : Int32) (a6 : Nat) (f6 : Nat → Int32) (a7 : Nat) (f7 : Nat → Int32) (a8 : Nat) (g8 : Nat → Option Nat) (a9 : Nat) (g9 : Nat → Option Nat) (M : pt_M) (H : Heap) (locs : List Loc) (ls : Array Slot) (ce : Nat) (hce : ce + 4 + 4 * n30 ≤ 260), wjL_build_141 xL xs p3 p4 p5 p6 Q (lpL_build_30 xL xs p3 p4 p5 p6 Q n30) x10 x11 f6 f7 M → va_P D pt_cl (pt_W cA ad M ++ [(a6, .inl (cA 0, (Int32.toNatClampNeg p3), .inl f6)), (a7, .inl (cA 0, (Int32.toNatClampNeg p3), .inl f7)), (a8, .inl (cA 4, (Int32.toNatClampNeg p3), .inr (.inr (.inr (.inr g8))))), (a9, .inl (cA 4, (Int32.toNatClampNeg p3), .inr (.inr (.inr (.inr g9)))))]) H → va_D (pt_fr ad s.heap.size) (pt_W cA ad M ++ [(a6, .inl (cA 0, (Int32.toNatClampNeg p3), .inl f6)), (a7, .inl (cA 0, (Int32.toNatClampNeg p3), .inl f7)), (a8, .inl (cA 4, (Int32.toNatClampNeg p3), .inr (.inr (.inr (.inr g8))))), (a9, .inl (cA 4, (Int32.toNatClampNeg p3), .inr (.inr (.inr (.inr g9)))))]) → va_S (pt_fr ad s.heap.size) s.heap H locs → lv_has ls 19 [(0, .ref (ad 0)), (1, .ref b), (2, .int p3), (3, .int p4), (4, .int p5), (5, .int p6), (6, .ref a6), (7, .ref a7), (8, .ref a8), (9, .ref a9), (10, .int x10), (11, .int x11)] → W p l e (headSpec (Cond.code yL_build cL_build 19 (some (.array .int)) :: lw_all) ({ frames := 5, cells := 861, slots := 55104, locals := 109 } : Room)).room s m ([.ref (ad 0), .ref b, .int p3, .int p4, .int p5, .int p6] : List Value).toArray below meth c H locs ce (ce * 64) (MQ below (va_Qr (fun u : (Nat → Int32) × pt_M => Q u.1 u.2) (pf_buB D cA ad s.heap.size (Int32.toNatClampNeg p3)) (pt_fr ad s.heap.size)) ([.ref (ad 0), .ref b, .int p3, .int p4, .int p5, .int p6] : List Value).toArray s 861 55104 (pt_fr ad s.heap.size)) (F0 m 141 ls []) := by
        intro x10 x11 a6 f6 a7 f7 a8 g8 a9 g9 M H locs ls ce hce hw hP hD hS hl
        unfold wjL_build_141 at hw
        refine lv_aload_n hx hb dL_build_141 rfl (lv_at hl 0 rfl) ?_
        refine lv_aload hx hb dL_build_142 (lv_at hl 6 rfl) ?_
        refine lv_iload hx hb dL_build_144 (lv_at hl 10 rfl) ?_
        have hv146 := hw.1
        replace hw := hw.2
        refine pt_xild F hP 0 rfl hv146 dL_build_146 ?_
        refine lv_aload hx hb dL_build_147 (lv_at hl 7 rfl) ?_
        refine lv_iload hx hb dL_build_149 (lv_at hl 10 rfl) ?_
        have hv151 := hw.1
        replace hw := hw.2
        refine pt_xild F hP 1 rfl hv151 dL_build_151 ?_
        refine pt_calli (pt_runV (n := 2) (As := [.int (f6 (Int32.toNatClampNeg x10)), .int (f7 (Int32.toNatClampNeg x10))]) (rest := []) F (pt_xP.mp hP).1 (pt_c7 _ pt_k0) (pt_l7 pt_k0) rfl (mtX7_addState l D cA ad hI _ (f6 (Int32.toNatClampNeg x10)) (f7 (Int32.toNatClampNeg x10)) M _ hw) kw_765 kw_762 kw_26 kw_763 kw_764 ⟨by decide, by decide, by decide +kernel⟩ ⟨rfl, rfl, Nat.le_of_ble_eq_true rfl, Nat.le_of_ble_eq_true rfl⟩ rfl hl.1 rfl (Nat.le_of_ble_eq_true rfl) dL_build_152 ⟨(Nat.le_trans (by omega) s_cb), (Nat.le_trans (by omega) s_sb)⟩) hS hAf (fun r_152 M_152 H_ locs hw hP1 hS _ ho => ?_)
        replace hP := pt_xback hP hD hP1 ho
        replace hD := pt_xeng (M1 := M_152) hD
        clear hP1 ho
        refine lv_pop hx hb dL_build_155 rfl ?_
        exact J156 x10 x11 a6 f6 a7 f7 a8 g8 a9 g9 M_152 _ _ _ ce (by omega) hw (pt_xpick hP [0, 1, 2, 3] rfl) (pt_xpickD hD [0, 1, 2, 3] (by decide) rfl) hS (lv_sub hl [0, 1, 2, 3, 4, 5, 6, 7, 8, 9, 10, 11] rfl)
      have L77 : ∀ (n77 : Nat) (x10 : Int32) (x11 : Int32) (a6 : Nat) (f6 : Nat → Int32) (a7 : Nat) (f7 : Nat → Int32) (a8 : Nat) (g8 : Nat → Option Nat) (a9 : Nat) (g9 : Nat → Option Nat) (M : pt_M) (H : Heap) (locs : List Loc) (ls : Array Slot) (ce : Nat) (hce : ce + 4 + 4 * n30 ≤ 260), lpL_build_77 xL xs p3 p4 p5 p6 Q (lpL_build_30 xL xs p3 p4 p5 p6 Q n30) n77 x10 x11 f6 f7 M → va_P D pt_cl (pt_W cA ad M ++ [(a6, .inl (cA 0, (Int32.toNatClampNeg p3), .inl f6)), (a7, .inl (cA 0, (Int32.toNatClampNeg p3), .inl f7)), (a8, .inl (cA 4, (Int32.toNatClampNeg p3), .inr (.inr (.inr (.inr g8))))), (a9, .inl (cA 4, (Int32.toNatClampNeg p3), .inr (.inr (.inr (.inr g9)))))]) H → va_D (pt_fr ad s.heap.size) (pt_W cA ad M ++ [(a6, .inl (cA 0, (Int32.toNatClampNeg p3), .inl f6)), (a7, .inl (cA 0, (Int32.toNatClampNeg p3), .inl f7)), (a8, .inl (cA 4, (Int32.toNatClampNeg p3), .inr (.inr (.inr (.inr g8))))), (a9, .inl (cA 4, (Int32.toNatClampNeg p3), .inr (.inr (.inr (.inr g9)))))]) → va_S (pt_fr ad s.heap.size) s.heap H locs → lv_has ls 19 [(0, .ref (ad 0)), (1, .ref b), (2, .int p3), (3, .int p4), (4, .int p5), (5, .int p6), (6, .ref a6), (7, .ref a7), (8, .ref a8), (9, .ref a9), (10, .int x10), (11, .int x11)] → W p l e (headSpec (Cond.code yL_build cL_build 19 (some (.array .int)) :: lw_all) ({ frames := 5, cells := 861, slots := 55104, locals := 109 } : Room)).room s m ([.ref (ad 0), .ref b, .int p3, .int p4, .int p5, .int p6] : List Value).toArray below meth c H locs ce (ce * 64) (MQ below (va_Qr (fun u : (Nat → Int32) × pt_M => Q u.1 u.2) (pf_buB D cA ad s.heap.size (Int32.toNatClampNeg p3)) (pt_fr ad s.heap.size)) ([.ref (ad 0), .ref b, .int p3, .int p4, .int p5, .int p6] : List Value).toArray s 861 55104 (pt_fr ad s.heap.size)) (F0 m 77 ls []) := by
        intro n77
        induction n77 with
        | zero => intro x10 x11 a6 f6 a7 f7 a8 g8 a9 g9 M H locs ls ce hce hw; exact hw.elim
        | succ n77 ih77 =>
          intro x10 x11 a6 f6 a7 f7 a8 g8 a9 g9 M H locs ls ce hce hw hP hD hS hl
          replace hw : lbL_build_77 xL xs p3 p4 p5 p6 Q (lpL_build_30 xL xs p3 p4 p5 p6 Q n30) (lpL_build_77 xL xs p3 p4 p5 p6 Q (lpL_build_30 xL xs p3 p4 p5 p6 Q n30) n77) x10 x11 f6 f7 M := hw
          unfold lbL_build_77 at hw
          refine lv_aload hx hb dL_build_77 (lv_at hl 7 rfl) ?_
          refine lv_aload hx hb dL_build_79 (lv_at hl 6 rfl) ?_
          refine lv_iload hx hb dL_build_81 (lv_at hl 10 rfl) ?_
          have hv83 := hw.1
          replace hw := hw.2
          refine pt_xild F hP 0 rfl hv83 dL_build_83 ?_
          have hv84 := hw.1
          replace hw := hw.2
          refine pt_xild F hP 1 rfl hv84 dL_build_84 ?_
          refine lv_iconst (v := 1) hx hb dL_build_85 (by decide) ?_
          refine lv_icmp_le (tgt := 101) hx hb dL_build_86 (by decide) (fun hc86 => ?_) (fun hc86 => ?_)
          · replace hw := hw.1 hc86
            refine lv_aload hx hb dL_build_101 (lv_at hl 7 rfl) ?_
            refine lv_iload hx hb dL_build_103 (lv_at hl 10 rfl) ?_
            refine lv_iload hx hb dL_build_105 (lv_at hl 11 rfl) ?_
            refine lv_iconst (v := 3) hx hb dL_build_107 (by decide) ?_
            refine lv_ishr hx hb dL_build_108 ?_
            refine lv_iload_n hx hb dL_build_109 rfl (lv_at hl 3 rfl) ?_
            have hz110 := hw.1
            replace hw := hw.2
            refine pt_callp (pt_runP (n := 2) (As := [.int (x11 >>> (3 &&& 31)), .int p4]) (rest := [.int x10, .ref a7]) F (mtL_below l (x11 >>> (3 &&& 31)) p4 hz110) (fun _ _ _ _ h => h) (fun _ _ _ => trivial) kw_751 kw_749 kw_25 kw_750 ⟨by decide, by decide, by decide +kernel⟩ ⟨rfl, rfl, Nat.le_of_ble_eq_true rfl, Nat.le_of_ble_eq_true rfl⟩ rfl hl.1 rfl (Nat.le_of_ble_eq_true rfl) dL_build_110 ⟨(Nat.le_trans (by omega) s_cb), (Nat.le_trans (by omega) s_sb)⟩) hS (fun r_110 H locs er_110 ho hS => ?_)
            replace hP := pt_xkeep hP ho
            replace hw := hw r_110 er_110
            have hv113 := hw.1
            replace hw := hw.2
            refine pt_xist (Y' := fun f1 => [(a6, .inl (cA 0, (Int32.toNatClampNeg p3), .inl f6)), (a7, .inl (cA 0, (Int32.toNatClampNeg p3), .inl f1)), (a8, .inl (cA 4, (Int32.toNatClampNeg p3), .inr (.inr (.inr (.inr g8))))), (a9, .inl (cA 4, (Int32.toNatClampNeg p3), .inr (.inr (.inr (.inr g9)))))]) F hP hD hS 1 rfl hv113 dL_build_113 (fun _ => rfl) (fun f_113 H locs ef_113 hP hD hS => ?_)
            replace hw := hw f_113 ef_113
            refine lv_aload hx hb dL_build_114 (lv_at hl 7 rfl) ?_
            refine lv_iload hx hb dL_build_116 (lv_at hl 10 rfl) ?_
            have hv118 := hw.1
            replace hw := hw.2
            refine pt_xild F hP 1 rfl hv118 dL_build_118 ?_
            refine lv_iconst (v := 2) hx hb dL_build_119 (by decide) ?_
            refine lv_icmp_ne (tgt := 141) hx hb dL_build_120 (by decide) (fun hc120 => ?_) (fun hc120 => ?_)
            · replace hw := hw.1 hc120
              exact J141 x10 x11 a6 f6 a7 f_113 a8 g8 a9 g9 M _ _ _ ce (by omega) hw (pt_xpick hP [0, 1, 2, 3] rfl) (pt_xpickD hD [0, 1, 2, 3] (by decide) rfl) hS (lv_sub hl [0, 1, 2, 3, 4, 5, 6, 7, 8, 9, 10, 11] rfl)
            · replace hw := hw.2 hc120
              refine lv_aload hx hb dL_build_123 (lv_at hl 7 rfl) ?_
              refine lv_aload hx hb dL_build_125 (lv_at hl 6 rfl) ?_
              refine lv_iload hx hb dL_build_127 (lv_at hl 10 rfl) ?_
              have hv129 := hw.1
              replace hw := hw.2
              refine pt_xild F hP 0 rfl hv129 dL_build_129 ?_
              have hv130 := hw.1
              replace hw := hw.2
              refine pt_xild F hP 1 rfl hv130 dL_build_130 ?_
              refine lv_iconst (v := 1) hx hb dL_build_131 (by decide) ?_
              refine lv_icmp_ne (tgt := 141) hx hb dL_build_132 (by decide) (fun hc132 => ?_) (fun hc132 => ?_)
              · replace hw := hw.1 hc132
                exact J141 x10 x11 a6 f6 a7 f_113 a8 g8 a9 g9 M _ _ _ ce (by omega) hw (pt_xpick hP [0, 1, 2, 3] rfl) (pt_xpickD hD [0, 1, 2, 3] (by decide) rfl) hS (lv_sub hl [0, 1, 2, 3, 4, 5, 6, 7, 8, 9, 10, 11] rfl)
              · replace hw := hw.2 hc132
                refine lv_aload hx hb dL_build_135 (lv_at hl 7 rfl) ?_
                refine lv_iload hx hb dL_build_137 (lv_at hl 10 rfl) ?_
                refine lv_iconst (v := 0) hx hb dL_build_139 (by decide) ?_
                have hv140 := hw.1
                replace hw := hw.2
                refine pt_xist (Y' := fun f1 => [(a6, .inl (cA 0, (Int32.toNatClampNeg p3), .inl f6)), (a7, .inl (cA 0, (Int32.toNatClampNeg p3), .inl f1)), (a8, .inl (cA 4, (Int32.toNatClampNeg p3), .inr (.inr (.inr (.inr g8))))), (a9, .inl (cA 4, (Int32.toNatClampNeg p3), .inr (.inr (.inr (.inr g9)))))]) F hP hD hS 1 rfl hv140 dL_build_140 (fun _ => rfl) (fun f_140 H locs ef_140 hP hD hS => ?_)
                replace hw := hw f_140 ef_140
                exact J141 x10 x11 a6 f6 a7 f_140 a8 g8 a9 g9 M _ _ _ ce (by omega) hw (pt_xpick hP [0, 1, 2, 3] rfl) (pt_xpickD hD [0, 1, 2, 3] (by decide) rfl) hS (lv_sub hl [0, 1, 2, 3, 4, 5, 6, 7, 8, 9, 10, 11] rfl)
          · replace hw := hw.2 hc86
            refine lv_aload hx hb dL_build_89 (lv_at hl 6 rfl) ?_
            refine lv_iload hx hb dL_build_91 (lv_at hl 10 rfl) ?_
            refine lv_dup2_11 hx hb dL_build_93 rfl rfl ?_
            have hv94 := hw.1
            replace hw := hw.2
            refine pt_xild F hP 0 rfl hv94 dL_build_94 ?_
            refine lv_iconst (v := 1) hx hb dL_build_95 (by decide) ?_
            refine lv_isub hx hb dL_build_96 ?_
            have hv97 := hw.1
            replace hw := hw.2
            refine pt_xist (Y' := fun f1 => [(a6, .inl (cA 0, (Int32.toNatClampNeg p3), .inl f1)), (a7, .inl (cA 0, (Int32.toNatClampNeg p3), .inl f7)), (a8, .inl (cA 4, (Int32.toNatClampNeg p3), .inr (.inr (.inr (.inr g8))))), (a9, .inl (cA 4, (Int32.toNatClampNeg p3), .inr (.inr (.inr (.inr g9)))))]) F hP hD hS 0 rfl hv97 dL_build_97 (fun _ => rfl) (fun f_97 H locs ef_97 hP hD hS => ?_)
            replace hw := hw f_97 ef_97
            refine lv_goto (tgt := 77) hx hb dL_build_98 (by decide) ?_
            exact ih77 x10 x11 a6 f_97 a7 f7 a8 g8 a9 g9 M _ _ _ ce (by omega) hw (pt_xpick hP [0, 1, 2, 3] rfl) (pt_xpickD hD [0, 1, 2, 3] (by decide) rfl) hS (lv_sub hl [0, 1, 2, 3, 4, 5, 6, 7, 8, 9, 10, 11] rfl)
      intro x10 a6 f6 a7 f7 a8 g8 a9 g9 M H locs ls ce hce hw hP hD hS hl
      replace hw : lbL_build_30 xL xs p3 p4 p5 p6 Q (lpL_build_30 xL xs p3 p4 p5 p6 Q n30) x10 f6 f7 M := hw
      unfold lbL_build_30 at hw
      refine lv_iload hx hb dL_build_30 (lv_at hl 10 rfl) ?_
      refine lv_iload_n hx hb dL_build_32 rfl (lv_at hl 2 rfl) ?_
      refine lv_icmp_ge (tgt := 314) hx hb dL_build_33 (by decide) (fun hc33 => ?_) (fun hc33 => ?_)
      · replace hw := hw.1 hc33
        refine W.widen (k := 260) (n := 16640) (by omega) (by omega) ?_
        refine lv_iload_n hx hb dL_build_314 rfl (lv_at hl 2 rfl) ?_
        refine lv_iconst (v := 4) hx hb dL_build_315 (by decide) ?_
        refine lv_iadd hx hb dL_build_316 ?_
        have hn317 := hw.1
        have hb317 := hw.2.1
        replace hw := hw.2.2
        refine pt_xnewA (N := (Int32.toNatClampNeg (p3 + 4))) F hAA hP hD hS hA kw_760 hAO hn317 rfl hb317 (Nat.le_trans (by omega) s_cb) (Nat.le_trans (by omega) s_sb) dL_build_317 (fun q_317 H hP hD hS => ?_)
        replace hP : va_P D pt_cl (pt_W cA ad M ++ [(a6, .inl (cA 0, (Int32.toNatClampNeg p3), .inl f6)), (a7, .inl (cA 0, (Int32.toNatClampNeg p3), .inl f7)), (a8, .inl (cA 4, (Int32.toNatClampNeg p3), .inr (.inr (.inr (.inr g8))))), (a9, .inl (cA 4, (Int32.toNatClampNeg p3), .inr (.inr (.inr (.inr g9))))), (q_317, .inl (cA 4, (Int32.toNatClampNeg (p3 + 4)), .inr (.inr (.inr (.inr (fun _ => none))))))]) H := hP
        replace hD : va_D (pt_fr ad s.heap.size) (pt_W cA ad M ++ [(a6, .inl (cA 0, (Int32.toNatClampNeg p3), .inl f6)), (a7, .inl (cA 0, (Int32.toNatClampNeg p3), .inl f7)), (a8, .inl (cA 4, (Int32.toNatClampNeg p3), .inr (.inr (.inr (.inr g8))))), (a9, .inl (cA 4, (Int32.toNatClampNeg p3), .inr (.inr (.inr (.inr g9))))), (q_317, .inl (cA 4, (Int32.toNatClampNeg (p3 + 4)), .inr (.inr (.inr (.inr (fun _ => none))))))]) := hD
        refine W.widen (k := 261) (n := 16704) (by omega) (by omega) ?_
        refine lv_astore (lv' := [(10, .ref q_317), (0, .ref (ad 0)), (1, .ref b), (2, .int p3), (3, .int p4), (4, .int p5), (5, .int p6), (6, .ref a6), (7, .ref a7), (8, .ref a8), (9, .ref a9)]) hx hb dL_build_320 hl (by decide) rfl (fun ls hl => ?_)
        refine lv_iconst (v := 0) hx hb dL_build_322 (by decide) ?_
        refine lv_istore (lv' := [(11, .int 0), (10, .ref q_317), (0, .ref (ad 0)), (1, .ref b), (2, .int p3), (3, .int p4), (4, .int p5), (5, .int p6), (6, .ref a6), (7, .ref a7), (8, .ref a8), (9, .ref a9)]) hx hb dL_build_323 hl (by decide) rfl (fun ls hl => ?_)
        refine lv_iconst (v := 0) hx hb dL_build_325 (by decide) ?_
        refine lv_istore (lv' := [(12, .int 0), (11, .int 0), (10, .ref q_317), (0, .ref (ad 0)), (1, .ref b), (2, .int p3), (3, .int p4), (4, .int p5), (5, .int p6), (6, .ref a6), (7, .ref a7), (8, .ref a8), (9, .ref a9)]) hx hb dL_build_326 hl (by decide) rfl (fun ls hl => ?_)
        obtain ⟨n_, hn_, hw⟩ := hw
        exact L328 n_ 0 0 a7 f7 q_317 (fun _ => none) M _ _ _ 261 (by omega) hw (pt_xpick hP [1, 4] rfl) (pt_xpickD hD [1, 4] (by decide) rfl) hS (lv_sub hl [3, 4, 5, 7, 8, 10, 2, 1, 0] rfl)
      · replace hw := hw.2 hc33
        refine lv_aload_n hx hb dL_build_36 rfl (lv_at hl 1 rfl) ?_
        refine lv_iload hx hb dL_build_37 (lv_at hl 10 rfl) ?_
        refine lv_bipush (v := 16) hx hb dL_build_39 (by decide) ?_
        have hz41 := hw.1
        replace hw := hw.2
        refine lv_irem hx hb dL_build_41 hz41 ?_
        have hz42 := hw.1
        replace hw := hw.2
        refine pt_callp (pt_runP (n := 2) (As := [.ref b, .int (x10 - (x10 / 16) * 16)]) (rest := []) F (mtL_cell l b xL xs (x10 - (x10 / 16) * 16) hz42) pf_cblind (fun U hU hW => ⟨by rw [hU]; exact va_X.moved hW.alike (hXH _ _ hS), by rw [hU]; exact Nat.lt_of_lt_of_le hbl hS.1⟩) kw_755 kw_753 kw_25 kw_754 ⟨by decide, by decide, by decide +kernel⟩ ⟨rfl, rfl, Nat.le_of_ble_eq_true rfl, Nat.le_of_ble_eq_true rfl⟩ rfl hl.1 rfl (Nat.le_of_ble_eq_true rfl) dL_build_42 ⟨(Nat.le_trans (by omega) s_cb), (Nat.le_trans (by omega) s_sb)⟩) hS (fun r_42 H locs er_42 ho hS => ?_)
        replace hP := pt_xkeep hP ho
        replace hw := hw r_42 er_42
        refine lv_iload hx hb dL_build_45 (lv_at hl 10 rfl) ?_
        refine lv_bipush (v := 16) hx hb dL_build_47 (by decide) ?_
        have hz49 := hw.1
        replace hw := hw.2
        refine lv_idiv hx hb dL_build_49 hz49 ?_
        refine lv_iconst (v := 3) hx hb dL_build_50 (by decide) ?_
        refine lv_imul hx hb dL_build_51 ?_
        refine lv_ishr hx hb dL_build_52 ?_
        refine lv_iload hx hb dL_build_53 (lv_at hl 10 rfl) ?_
        refine lv_iadd hx hb dL_build_55 ?_
        refine lv_topi (fun x11_56 ex11_56 => ?_)
        replace hw := hw x11_56 ex11_56
        refine lv_istore (lv' := [(11, .int x11_56), (0, .ref (ad 0)), (1, .ref b), (2, .int p3), (3, .int p4), (4, .int p5), (5, .int p6), (6, .ref a6), (7, .ref a7), (8, .ref a8), (9, .ref a9), (10, .int x10)]) hx hb dL_build_56 hl (by decide) rfl (fun ls hl => ?_)
        refine lv_iload hx hb dL_build_58 (lv_at hl 11 rfl) ?_
        refine lv_if_le (tgt := 156) hx hb dL_build_60 (by decide) (fun hc60 => ?_) (fun hc60 => ?_)
        · replace hw := hw.1 hc60
          exact J156 x10 x11_56 a6 f6 a7 f7 a8 g8 a9 g9 M _ _ _ ce (by omega) hw (pt_xpick hP [0, 1, 2, 3] rfl) (pt_xpickD hD [0, 1, 2, 3] (by decide) rfl) hS (lv_sub hl [1, 2, 3, 4, 5, 6, 7, 8, 9, 10, 11, 0] rfl)
        · replace hw := hw.2 hc60
          refine lv_aload hx hb dL_build_63 (lv_at hl 7 rfl) ?_
          refine lv_iload hx hb dL_build_65 (lv_at hl 11 rfl) ?_
          refine lv_iload hx hb dL_build_67 (lv_at hl 0 rfl) ?_
          refine lv_iconst (v := 1) hx hb dL_build_69 (by decide) ?_
          refine lv_ishr hx hb dL_build_70 ?_
          refine lv_iload hx hb dL_build_71 (lv_at hl 11 rfl) ?_
          have hz73 := hw.1
          replace hw := hw.2
          refine pt_callp (pt_runP (n := 2) (As := [.int (x11_56 >>> (1 &&& 31)), .int x10]) (rest := [.int x10, .ref a6]) F (mtL_below l (x11_56 >>> (1 &&& 31)) x10 hz73) (fun _ _ _ _ h => h) (fun _ _ _ => trivial) kw_751 kw_749 kw_25 kw_750 ⟨by decide, by decide, by decide +kernel⟩ ⟨rfl, rfl, Nat.le_of_ble_eq_true rfl, Nat.le_of_ble_eq_true rfl⟩ rfl hl.1 rfl (Nat.le_of_ble_eq_true rfl) dL_build_73 ⟨(Nat.le_trans (by omega) s_cb), (Nat.le_trans (by omega) s_sb)⟩) hS (fun r_73 H locs er_73 ho hS => ?_)
          replace hP := pt_xkeep hP ho
          replace hw := hw r_73 er_73
          have hv76 := hw.1
          replace hw := hw.2
          refine pt_xist (Y' := fun f1 => [(a6, .inl (cA 0, (Int32.toNatClampNeg p3), .inl f1)), (a7, .inl (cA 0, (Int32.toNatClampNeg p3), .inl f7)), (a8, .inl (cA 4, (Int32.toNatClampNeg p3), .inr (.inr (.inr (.inr g8))))), (a9, .inl (cA 4, (Int32.toNatClampNeg p3), .inr (.inr (.inr (.inr g9)))))]) F hP hD hS 0 rfl hv76 dL_build_76 (fun _ => rfl) (fun f_76 H locs ef_76 hP hD hS => ?_)
          replace hw := hw f_76 ef_76
          obtain ⟨n_, hw⟩ := hw
          exact L77 n_ x10 x11_56 a6 f_76 a7 f7 a8 g8 a9 g9 M _ _ _ ce (by omega) hw (pt_xpick hP [0, 1, 2, 3] rfl) (pt_xpickD hD [0, 1, 2, 3] (by decide) rfl) hS (lv_sub hl [1, 2, 3, 4, 5, 6, 7, 8, 9, 10, 11, 0] rfl)
  unfold wpL_build at hw
  refine lv_iload_n hx hb dL_build_0 rfl (lv_at hl 2 rfl) ?_
  have hn1 := hw.1
  have hb1 := hw.2.1
  replace hw := hw.2.2
  refine pt_xnew (N := (Int32.toNatClampNeg p3)) F hP hD hS hA kw_88 hn1 rfl hb1 (Nat.le_trans (by omega) s_cb) (Nat.le_trans (by omega) s_sb) dL_build_1 (fun q_1 H hP hD hS => ?_)
  replace hP : va_P D pt_cl (pt_W cA ad M ++ [(q_1, .inl (cA 0, (Int32.toNatClampNeg p3), .inl (fun _ => 0)))]) H := hP
  replace hD : va_D (pt_fr ad s.heap.size) (pt_W cA ad M ++ [(q_1, .inl (cA 0, (Int32.toNatClampNeg p3), .inl (fun _ => 0)))]) := hD
  refine W.widen (k := 1) (n := 64) (by omega) (by omega) ?_
  refine lv_astore (lv' := [(6, .ref q_1), (0, .ref (ad 0)), (1, .ref b), (2, .int p3), (3, .int p4), (4, .int p5), (5, .int p6)]) hx hb dL_build_3 hl (by decide) rfl (fun ls hl => ?_)
  refine lv_iload_n hx hb dL_build_5 rfl (lv_at hl 3 rfl) ?_
  have hn6 := hw.1
  have hb6 := hw.2.1
  replace hw := hw.2.2
  refine pt_xnew (N := (Int32.toNatClampNeg p3)) F hP hD hS hA kw_88 hn6 rfl hb6 (Nat.le_trans (by omega) s_cb) (Nat.le_trans (by omega) s_sb) dL_build_6 (fun q_6 H hP hD hS => ?_)
  replace hP : va_P D pt_cl (pt_W cA ad M ++ [(q_1, .inl (cA 0, (Int32.toNatClampNeg p3), .inl (fun _ => 0))), (q_6, .inl (cA 0, (Int32.toNatClampNeg p3), .inl (fun _ => 0)))]) H := hP
  replace hD : va_D (pt_fr ad s.heap.size) (pt_W cA ad M ++ [(q_1, .inl (cA 0, (Int32.toNatClampNeg p3), .inl (fun _ => 0))), (q_6, .inl (cA 0, (Int32.toNatClampNeg p3), .inl (fun _ => 0)))]) := hD
  refine W.widen (k := 2) (n := 128) (by omega) (by omega) ?_
  refine lv_astore (lv' := [(7, .ref q_6), (6, .ref q_1), (0, .ref (ad 0)), (1, .ref b), (2, .int p3), (3, .int p4), (4, .int p5), (5, .int p6)]) hx hb dL_build_8 hl (by decide) rfl (fun ls hl => ?_)
  refine lv_iload_n hx hb dL_build_10 rfl (lv_at hl 4 rfl) ?_
  have hn11 := hw.1
  have hb11 := hw.2.1
  replace hw := hw.2.2
  refine pt_xnewA (N := (Int32.toNatClampNeg p3)) F hAA hP hD hS hA kw_760 hAO hn11 rfl hb11 (Nat.le_trans (by omega) s_cb) (Nat.le_trans (by omega) s_sb) dL_build_11 (fun q_11 H hP hD hS => ?_)
  replace hP : va_P D pt_cl (pt_W cA ad M ++ [(q_1, .inl (cA 0, (Int32.toNatClampNeg p3), .inl (fun _ => 0))), (q_6, .inl (cA 0, (Int32.toNatClampNeg p3), .inl (fun _ => 0))), (q_11, .inl (cA 4, (Int32.toNatClampNeg p3), .inr (.inr (.inr (.inr (fun _ => none))))))]) H := hP
  replace hD : va_D (pt_fr ad s.heap.size) (pt_W cA ad M ++ [(q_1, .inl (cA 0, (Int32.toNatClampNeg p3), .inl (fun _ => 0))), (q_6, .inl (cA 0, (Int32.toNatClampNeg p3), .inl (fun _ => 0))), (q_11, .inl (cA 4, (Int32.toNatClampNeg p3), .inr (.inr (.inr (.inr (fun _ => none))))))]) := hD
  refine W.widen (k := 3) (n := 192) (by omega) (by omega) ?_
  refine lv_astore (lv' := [(8, .ref q_11), (7, .ref q_6), (6, .ref q_1), (0, .ref (ad 0)), (1, .ref b), (2, .int p3), (3, .int p4), (4, .int p5), (5, .int p6)]) hx hb dL_build_14 hl (by decide) rfl (fun ls hl => ?_)
  refine lv_iload_n hx hb dL_build_16 rfl (lv_at hl 5 rfl) ?_
  have hn17 := hw.1
  have hb17 := hw.2.1
  replace hw := hw.2.2
  refine pt_xnewA (N := (Int32.toNatClampNeg p3)) F hAA hP hD hS hA kw_760 hAO hn17 rfl hb17 (Nat.le_trans (by omega) s_cb) (Nat.le_trans (by omega) s_sb) dL_build_17 (fun q_17 H hP hD hS => ?_)
  replace hP : va_P D pt_cl (pt_W cA ad M ++ [(q_1, .inl (cA 0, (Int32.toNatClampNeg p3), .inl (fun _ => 0))), (q_6, .inl (cA 0, (Int32.toNatClampNeg p3), .inl (fun _ => 0))), (q_11, .inl (cA 4, (Int32.toNatClampNeg p3), .inr (.inr (.inr (.inr (fun _ => none)))))), (q_17, .inl (cA 4, (Int32.toNatClampNeg p3), .inr (.inr (.inr (.inr (fun _ => none))))))]) H := hP
  replace hD : va_D (pt_fr ad s.heap.size) (pt_W cA ad M ++ [(q_1, .inl (cA 0, (Int32.toNatClampNeg p3), .inl (fun _ => 0))), (q_6, .inl (cA 0, (Int32.toNatClampNeg p3), .inl (fun _ => 0))), (q_11, .inl (cA 4, (Int32.toNatClampNeg p3), .inr (.inr (.inr (.inr (fun _ => none)))))), (q_17, .inl (cA 4, (Int32.toNatClampNeg p3), .inr (.inr (.inr (.inr (fun _ => none))))))]) := hD
  refine W.widen (k := 4) (n := 256) (by omega) (by omega) ?_
  refine lv_astore (lv' := [(9, .ref q_17), (8, .ref q_11), (7, .ref q_6), (6, .ref q_1), (0, .ref (ad 0)), (1, .ref b), (2, .int p3), (3, .int p4), (4, .int p5), (5, .int p6)]) hx hb dL_build_20 hl (by decide) rfl (fun ls hl => ?_)
  refine lv_aload hx hb dL_build_22 (lv_at hl 3 rfl) ?_
  refine lv_iconst (v := 0) hx hb dL_build_24 (by decide) ?_
  refine lv_iconst (v := (-1)) hx hb dL_build_25 (by decide) ?_
  have hv26 := hw.1
  replace hw := hw.2
  refine pt_xist (Y' := fun f1 => [(q_1, .inl (cA 0, (Int32.toNatClampNeg p3), .inl f1)), (q_6, .inl (cA 0, (Int32.toNatClampNeg p3), .inl (fun _ => 0))), (q_11, .inl (cA 4, (Int32.toNatClampNeg p3), .inr (.inr (.inr (.inr (fun _ => none)))))), (q_17, .inl (cA 4, (Int32.toNatClampNeg p3), .inr (.inr (.inr (.inr (fun _ => none))))))]) F hP hD hS 0 rfl hv26 dL_build_26 (fun _ => rfl) (fun f_26 H locs ef_26 hP hD hS => ?_)
  replace hw := hw f_26 ef_26
  refine lv_iconst (v := 0) hx hb dL_build_27 (by decide) ?_
  refine lv_istore (lv' := [(10, .int 0), (9, .ref q_17), (8, .ref q_11), (7, .ref q_6), (6, .ref q_1), (0, .ref (ad 0)), (1, .ref b), (2, .int p3), (3, .int p4), (4, .int p5), (5, .int p6)]) hx hb dL_build_28 hl (by decide) rfl (fun ls hl => ?_)
  obtain ⟨n_, hn_, hw⟩ := hw
  exact L30 n_ 0 q_1 f_26 q_6 (fun _ => 0) q_11 (fun _ => none) q_17 (fun _ => none) M _ _ _ 4 (by omega) hw (pt_xpick hP [0, 1, 2, 3] rfl) (pt_xpickD hD [0, 1, 2, 3] (by decide) rfl) hS (lv_sub hl [5, 6, 7, 8, 9, 10, 4, 3, 2, 1, 0] rfl)
