-- ===== L_law
def wjL_law_570 (xL : Nat) (xs : Nat → Int32) (Q : Unit)  (xs0 : Int32) (M : pt_M) : Prop :=
  xs0 = 1
def wjL_law_565 (xL : Nat) (xs : Nat → Int32) (Q : Unit)   (M : pt_M) : Prop :=
  wjL_law_570 xL xs Q 1 M
def wjL_law_541 (xL : Nat) (xs : Nat → Int32) (Q : Unit) (R505 : Int32 → Int32 → Int32 → (Nat → Int32) → pt_M → Prop) (x4 : Int32) (x6 : Int32) (x8 : Int32) (f7 : Nat → Int32) (M : pt_M) : Prop :=
  ∀ x8_541 : Int32, x8_541 = x8 + 1 → R505 x4 x6 x8_541 f7 M
def lbL_law_505 (xL : Nat) (xs : Nat → Int32) (Q : Unit)  (R505 : Int32 → Int32 → Int32 → (Nat → Int32) → pt_M → Prop) (x4 : Int32) (x6 : Int32) (x8 : Int32) (f7 : Nat → Int32) (M : pt_M) : Prop :=
  (x6 ≤ x8 → (x6 < 0 → wjL_law_565 xL xs Q M) ∧ (¬ x6 < 0 → wpX7_active M (fun (r_553 : Int32) (M_553 : pt_M) => (¬ ((r_553 >>> (x4 &&& 31)) &&& 1) = 1 → wjL_law_570 xL xs Q 0 M_553) ∧ (((r_553 >>> (x4 &&& 31)) &&& 1) = 1 → wjL_law_565 xL xs Q M_553)))) ∧ (¬ x6 ≤ x8 → vp_in x8 2 ∧ ((10 ≤ (f7 (Int32.toNatClampNeg x8)) → wpX7_tick 1 M (fun (r_537 : Int32) (M_537 : pt_M) => wjL_law_541 xL xs Q R505 x4 x6 x8 f7 M_537)) ∧ (¬ 10 ≤ (f7 (Int32.toNatClampNeg x8)) → vp_in x8 2 ∧ (wpX7_send (f7 (Int32.toNatClampNeg x8)) M (fun (r_528 : Int32) (M_528 : pt_M) => wjL_law_541 xL xs Q R505 x4 x6 x8 f7 M_528)))))
def lpL_law_505 (xL : Nat) (xs : Nat → Int32) (Q : Unit)  : Nat → Int32 → Int32 → Int32 → (Nat → Int32) → pt_M → Prop
  | 0 => fun _ _ _ _ _ => False
  | n + 1 => fun x4 x6 x8 f7 M => lbL_law_505 xL xs Q (lpL_law_505 xL xs Q n) x4 x6 x8 f7 M
def wjL_law_494 (xL : Nat) (xs : Nat → Int32) (Q : Unit)   (M : pt_M) : Prop :=
  False
def wjL_law_481 (xL : Nat) (xs : Nat → Int32) (Q : Unit) (R450 : Int32 → Int32 → Int32 → (Nat → Int32) → pt_M → Prop) (x4 : Int32) (x6 : Int32) (x8 : Int32) (xs0 : Int32) (xs1 : Int32) (f7 : Nat → Int32) (M : pt_M) : Prop :=
  (¬ xs0 = xs1 → wjL_law_494 xL xs Q M) ∧ (xs0 = xs1 → vp_in x8 2 ∧ (((f7 (Int32.toNatClampNeg x8)) ≤ 10 → ∀ x8_496 : Int32, x8_496 = x8 + 1 → R450 x4 x6 x8_496 f7 M) ∧ (¬ (f7 (Int32.toNatClampNeg x8)) ≤ 10 → wjL_law_494 xL xs Q M)))
def wjL_law_469 (xL : Nat) (xs : Nat → Int32) (Q : Unit) (R450 : Int32 → Int32 → Int32 → (Nat → Int32) → pt_M → Prop) (x4 : Int32) (x6 : Int32) (x8 : Int32) (xs0 : Int32) (f7 : Nat → Int32) (M : pt_M) : Prop :=
  (x6 ≤ x8 → wjL_law_481 xL xs Q R450 x4 x6 x8 xs0 0 f7 M) ∧ (¬ x6 ≤ x8 → wjL_law_481 xL xs Q R450 x4 x6 x8 xs0 1 f7 M)
def lbL_law_450 (xL : Nat) (xs : Nat → Int32) (Q : Unit)  (R450 : Int32 → Int32 → Int32 → (Nat → Int32) → pt_M → Prop) (x4 : Int32) (x6 : Int32) (x8 : Int32) (f7 : Nat → Int32) (M : pt_M) : Prop :=
  (2 ≤ x8 → ∃ n : Nat, lpL_law_505 xL xs Q n x4 x6 0 f7 M) ∧ (¬ 2 ≤ x8 → vp_in x8 2 ∧ (((f7 (Int32.toNatClampNeg x8)) < 0 → wjL_law_469 xL xs Q R450 x4 x6 x8 0 f7 M) ∧ (¬ (f7 (Int32.toNatClampNeg x8)) < 0 → wjL_law_469 xL xs Q R450 x4 x6 x8 1 f7 M)))
def lpL_law_450 (xL : Nat) (xs : Nat → Int32) (Q : Unit)  : Nat → Int32 → Int32 → Int32 → (Nat → Int32) → pt_M → Prop
  | 0 => fun _ _ _ _ _ => False
  | n + 1 => fun x4 x6 x8 f7 M => lbL_law_450 xL xs Q (lpL_law_450 xL xs Q n) x4 x6 x8 f7 M
def wjL_law_426 (xL : Nat) (xs : Nat → Int32) (Q : Unit)  (x4 : Int32) (x6 : Int32) (M : pt_M) : Prop :=
  wpX7_rowAt 0 M (fun (r_433 : Int32) (M_433 : pt_M) => ∀ f_436 : Nat → Int32, f_436 = upd (fun _ => 0) (Int32.toNatClampNeg 0) r_433 → wpX7_rowAt 1 M_433 (fun (r_441 : Int32) (M_441 : pt_M) => ∀ f_444 : Nat → Int32, f_444 = upd f_436 (Int32.toNatClampNeg 1) r_441 → ∃ n : Nat, lpL_law_450 xL xs Q n x4 x6 0 f_444 M_441))
def wjL_law_424 (xL : Nat) (xs : Nat → Int32) (Q : Unit)   (M : pt_M) : Prop :=
  False
def wjL_law_401 (xL : Nat) (xs : Nat → Int32) (Q : Unit)  (x4 : Int32) (x6 : Int32) (xs0 : Int32) (xs1 : Int32) (n2 : Nat) (f2 : Nat → Int32) (M : pt_M) : Prop :=
  (¬ xs0 = xs1 → wjL_law_424 xL xs Q M) ∧ (xs0 = xs1 → (2 < x6 → wjL_law_424 xL xs Q M) ∧ (¬ 2 < x6 → vp_in x4 n2 ∧ (((f2 (Int32.toNatClampNeg x4)) ≤ 2 → wjL_law_426 xL xs Q x4 x6 M) ∧ (¬ (f2 (Int32.toNatClampNeg x4)) ≤ 2 → (x6 = (-1) → wjL_law_426 xL xs Q x4 x6 M) ∧ (¬ x6 = (-1) → wjL_law_424 xL xs Q M)))))
def wjL_law_385 (xL : Nat) (xs : Nat → Int32) (Q : Unit)  (x4 : Int32) (x5 : Int32) (x6 : Int32) (xs0 : Int32) (n2 : Nat) (f2 : Nat → Int32) (M : pt_M) : Prop :=
  (¬ ((x5 >>> (x4 &&& 31)) &&& 1) = 1 → wjL_law_401 xL xs Q x4 x6 xs0 0 n2 f2 M) ∧ (((x5 >>> (x4 &&& 31)) &&& 1) = 1 → wjL_law_401 xL xs Q x4 x6 xs0 1 n2 f2 M)
def wjL_law_330 (xL : Nat) (xs : Nat → Int32) (Q : Unit)   (M : pt_M) : Prop :=
  False
def wjL_law_322 (xL : Nat) (xs : Nat → Int32) (Q : Unit) (R37 : Int32 → Int32 → Nat → (Nat → Int32) → pt_M → Prop) (x3 : Int32) (x4 : Int32) (n2 : Nat) (f2 : Nat → Int32) (M : pt_M) : Prop :=
  wpL_isSound n2 f2 M (fun (r_324 : Int32) (M_324 : pt_M) => (¬ r_324 = 0 → ∀ x4_332 : Int32, x4_332 = x4 + 1 → R37 x3 x4_332 n2 f2 M_324) ∧ (r_324 = 0 → wjL_law_330 xL xs Q M_324))
def wjL_law_283 (xL : Nat) (xs : Nat → Int32) (Q : Unit) (R37 : Int32 → Int32 → Nat → (Nat → Int32) → pt_M → Prop) (R247 : Int32 → Int32 → Int32 → Int32 → Int32 → Nat → (Nat → Int32) → pt_M → Prop) (x3 : Int32) (x4 : Int32) (x13 : Int32) (x15 : Int32) (xs0 : Int32) (xs1 : Int32) (n2 : Nat) (f2 : Nat → Int32) (M : pt_M) : Prop :=
  ∀ x14_284 : Int32, x14_284 = (xs0 + xs1) → ∀ x15_286 : Int32, x15_286 = x15 + 1 → R247 x3 x4 x13 x14_284 x15_286 n2 f2 M
def lbL_law_247 (xL : Nat) (xs : Nat → Int32) (Q : Unit) (R37 : Int32 → Int32 → Nat → (Nat → Int32) → pt_M → Prop) (R247 : Int32 → Int32 → Int32 → Int32 → Int32 → Nat → (Nat → Int32) → pt_M → Prop) (x3 : Int32) (x4 : Int32) (x13 : Int32) (x14 : Int32) (x15 : Int32) (n2 : Nat) (f2 : Nat → Int32) (M : pt_M) : Prop :=
  wpX7_transitions M (fun (r_250 : Int32) (M_250 : pt_M) => (r_250 ≤ x15 → (¬ x13 = x3 → wjL_law_330 xL xs Q M_250) ∧ (x13 = x3 → wpX7_covered M_250 (fun (r_301 : Int32) (M_301 : pt_M) => (¬ x14 = r_301 → wjL_law_330 xL xs Q M_301) ∧ (x14 = r_301 → wpX7_isOver M_301 (fun (r_308 : Int32) (M_308 : pt_M) => (r_308 = 0 → wjL_law_322 xL xs Q R37 x3 x4 n2 f2 M_308) ∧ (¬ r_308 = 0 → wpX7_isEnded 0 M_308 (fun (r_316 : Int32) (M_316 : pt_M) => (r_316 = 0 → wjL_law_330 xL xs Q M_316) ∧ (¬ r_316 = 0 → wjL_law_322 xL xs Q R37 x3 x4 n2 f2 M_316)))))))) ∧ (¬ r_250 ≤ x15 → wpX7_fired x15 M_250 (fun (r_261 : Int32) (M_261 : pt_M) => ∀ x13_265 : Int32, x13_265 = (x13 + r_261) → wpX7_fired x15 M_261 (fun (r_272 : Int32) (M_272 : pt_M) => (r_272 ≤ 0 → wjL_law_283 xL xs Q R37 R247 x3 x4 x13_265 x15 x14 0 n2 f2 M_272) ∧ (¬ r_272 ≤ 0 → wjL_law_283 xL xs Q R37 R247 x3 x4 x13_265 x15 x14 1 n2 f2 M_272)))))
def lpL_law_247 (xL : Nat) (xs : Nat → Int32) (Q : Unit) (R37 : Int32 → Int32 → Nat → (Nat → Int32) → pt_M → Prop) : Nat → Int32 → Int32 → Int32 → Int32 → Int32 → Nat → (Nat → Int32) → pt_M → Prop
  | 0 => fun _ _ _ _ _ _ _ _ => False
  | n + 1 => fun x3 x4 x13 x14 x15 n2 f2 M => lbL_law_247 xL xs Q R37 (lpL_law_247 xL xs Q R37 n) x3 x4 x13 x14 x15 n2 f2 M
def wjL_law_238 (xL : Nat) (xs : Nat → Int32) (Q : Unit) (R37 : Int32 → Int32 → Nat → (Nat → Int32) → pt_M → Prop) (x3 : Int32) (x4 : Int32) (n2 : Nat) (f2 : Nat → Int32) (M : pt_M) : Prop :=
  ∃ n : Nat, lpL_law_247 xL xs Q R37 n x3 x4 0 0 0 n2 f2 M
def wjL_law_236 (xL : Nat) (xs : Nat → Int32) (Q : Unit)   (M : pt_M) : Prop :=
  False
def wjL_law_222 (xL : Nat) (xs : Nat → Int32) (Q : Unit) (R37 : Int32 → Int32 → Nat → (Nat → Int32) → pt_M → Prop) (x3 : Int32) (x4 : Int32) (x12 : Int32) (x14 : Int32) (xs0 : Int32) (xs1 : Int32) (xs2 : Int32) (n2 : Nat) (f2 : Nat → Int32) (M : pt_M) : Prop :=
  (¬ xs0 = (xs1 + xs2) → wjL_law_236 xL xs Q M) ∧ (xs0 = (xs1 + xs2) → (x12 = 0 → wjL_law_238 xL xs Q R37 x3 x4 n2 f2 M) ∧ (¬ x12 = 0 → (x14 ≤ 0 → wjL_law_238 xL xs Q R37 x3 x4 n2 f2 M) ∧ (¬ x14 ≤ 0 → wjL_law_236 xL xs Q M)))
def wjL_law_178 (xL : Nat) (xs : Nat → Int32) (Q : Unit)   (M : pt_M) : Prop :=
  False
def wjL_law_149 (xL : Nat) (xs : Nat → Int32) (Q : Unit) (R37 : Int32 → Int32 → Nat → (Nat → Int32) → pt_M → Prop) (x3 : Int32) (x4 : Int32) (x5 : Int32) (x8 : Int32) (x9 : Int32) (x10 : Int32) (x12 : Int32) (n2 : Nat) (f2 : Nat → Int32) (M : pt_M) : Prop :=
  ∀ r_152 : Int32, r_152 = pf_below x5 3 → (r_152 ≤ 0 → wpX7_clock M (fun (r_189 : Int32) (M_189 : pt_M) => wpX7_tick 1 M_189 (fun (r_196 : Int32) (M_196 : pt_M) => ∀ x3_205 : Int32, x3_205 = (x3 + r_196) → wpX7_clock M_196 (fun (r_207 : Int32) (M_207 : pt_M) => (x12 = 0 → wjL_law_222 xL xs Q R37 x3_205 x4 x12 r_196 r_207 r_189 1 n2 f2 M_207) ∧ (¬ x12 = 0 → wjL_law_222 xL xs Q R37 x3_205 x4 x12 r_196 r_207 r_189 0 n2 f2 M_207))))) ∧ (¬ r_152 ≤ 0 → wpX7_send x8 M (fun (r_161 : Int32) (M_161 : pt_M) => (¬ r_161 = x9 → wjL_law_178 xL xs Q M_161) ∧ (r_161 = x9 → wpX7_active M_161 (fun (r_170 : Int32) (M_170 : pt_M) => (r_170 = x10 → ∀ x3_184 : Int32, x3_184 = (x3 + x9) → wjL_law_238 xL xs Q R37 x3_184 x4 n2 f2 M_170) ∧ (¬ r_170 = x10 → wjL_law_178 xL xs Q M_170)))))
def wjL_law_147 (xL : Nat) (xs : Nat → Int32) (Q : Unit)   (M : pt_M) : Prop :=
  False
def wjL_law_125 (xL : Nat) (xs : Nat → Int32) (Q : Unit) (R37 : Int32 → Int32 → Nat → (Nat → Int32) → pt_M → Prop) (x3 : Int32) (x4 : Int32) (x5 : Int32) (x8 : Int32) (x9 : Int32) (x10 : Int32) (x11 : Int32) (x12 : Int32) (n2 : Nat) (f2 : Nat → Int32) (M : pt_M) : Prop :=
  (¬ ((x11 >>> (x8 &&& 31)) &&& 1) = 0 → wjL_law_149 xL xs Q R37 x3 x4 x5 x8 x9 x10 x12 n2 f2 M) ∧ (((x11 >>> (x8 &&& 31)) &&& 1) = 0 → wpX7_restless M (fun (r_136 : Int32) (M_136 : pt_M) => (¬ r_136 = 0 → wjL_law_149 xL xs Q R37 x3 x4 x5 x8 x9 x10 x12 n2 f2 M_136) ∧ (r_136 = 0 → (x9 = 0 → wjL_law_149 xL xs Q R37 x3 x4 x5 x8 x9 x10 x12 n2 f2 M_136) ∧ (¬ x9 = 0 → wjL_law_147 xL xs Q M_136))))
def lbL_law_37 (xL : Nat) (xs : Nat → Int32) (Q : Unit)  (R37 : Int32 → Int32 → Nat → (Nat → Int32) → pt_M → Prop) (x3 : Int32) (x4 : Int32) (n2 : Nat) (f2 : Nat → Int32) (M : pt_M) : Prop :=
  (16 ≤ x4 → ∀ r_341 : Int32, r_341 = pf_cell xL xs 15 → ¬ (Int32.ofNat n2) = 0 ∧ ∀ r_346 : Int32, r_346 = pf_below r_341 (Int32.ofNat n2) → wpX7_active M (fun (r_352 : Int32) (M_352 : pt_M) => wpX7_rowTo r_346 2 M_352 (fun (r_361 : Int32) (M_361 : pt_M) => wpX7_active M_361 (fun (r_367 : Int32) (M_367 : pt_M) => (¬ r_367 = r_352 → wjL_law_424 xL xs Q M_367) ∧ (r_367 = r_352 → (¬ r_361 = 0 → wjL_law_385 xL xs Q r_346 r_352 r_361 0 n2 f2 M_367) ∧ (r_361 = 0 → wjL_law_385 xL xs Q r_346 r_352 r_361 1 n2 f2 M_367)))))) ∧ (¬ 16 ≤ x4 → ¬ x4 < 0 ∧ ∀ r_47 : Int32, r_47 = pf_cell xL xs x4 → wpX7_digest M (fun (r_53 : Int64) (M_53 : pt_M) => ∀ r_63 : Int32, r_63 = pf_below (r_47 >>> (1 &&& 31)) 5 → wpX7_wouldFire r_63 M_53 (fun (r_71 : Int32) (M_71 : pt_M) => wpX7_wouldBe r_63 M_71 (fun (r_79 : Int32) (M_79 : pt_M) => wpX7_open M_79 (fun (r_85 : Int32) (M_85 : pt_M) => wpX7_isOver M_85 (fun (r_91 : Int32) (M_91 : pt_M) => wpX7_digest M_91 (fun (r_97 : Int64) (M_97 : pt_M) => ∀ r_102 : Int32, r_102 = (lg_cmp r_97 r_53) → (¬ r_102 = 0 → wjL_law_147 xL xs Q M_97) ∧ (r_102 = 0 → (r_91 = 0 → wjL_law_125 xL xs Q R37 x3 x4 r_47 r_63 r_71 r_79 r_85 r_91 n2 f2 M_97) ∧ (¬ r_91 = 0 → (¬ r_71 = 0 → wjL_law_147 xL xs Q M_97) ∧ (r_71 = 0 → wpX7_active M_97 (fun (r_119 : Int32) (M_119 : pt_M) => (¬ r_79 = r_119 → wjL_law_147 xL xs Q M_119) ∧ (r_79 = r_119 → wjL_law_125 xL xs Q R37 x3 x4 r_47 r_63 r_71 r_79 r_85 r_91 n2 f2 M_119))))))))))))
def lpL_law_37 (xL : Nat) (xs : Nat → Int32) (Q : Unit)  : Nat → Int32 → Int32 → Nat → (Nat → Int32) → pt_M → Prop
  | 0 => fun _ _ _ _ _ => False
  | n + 1 => fun x3 x4 n2 f2 M => lbL_law_37 xL xs Q (lpL_law_37 xL xs Q n) x3 x4 n2 f2 M
def wpL_law (xL : Nat) (xs : Nat → Int32) (Q : Unit) : Prop :=
  ∀ r_13 : Int32, r_13 = pf_cell xL xs 0 → ∀ r_18 : Int32, r_18 = pf_below r_13 12 → wpL_build xL xs (4 + r_18) 5 4 4 pt_M0 (fun f_25 M_25 => wpX7_start M_25 (fun (r_30 : Int32) (M_30 : pt_M) => ∃ n : Nat, lpL_law_37 xL xs Q n r_30 0 (Int32.toNatClampNeg (4 + r_18)) f_25 M_30))
set_option maxHeartbeats 16000000 in
set_option maxRecDepth 100000 in
/-- THE LAW, from its entry: out of what its calls ask -/
theorem law_start {p : Program} {e : Env} {s : State} {m : MethodId} {below : List Frame} {meth : Method} {c : Code} (l : Launch) {b xL : Nat} {xs : Nat → Int32} (hL : xL ≤ 260) (hw : wpL_law xL xs ()) (C0 : lw_At p s m meth c b xL xs) : W p l e room_1 s m #[Value.ref b] below meth c s.heap [] 0 0 (lw_Z below #[Value.ref b] s) (entryFrame m ([Value.ref b] : List Value).toArray 16) := by
  obtain ⟨hx, hb, hr, hml, hown, hts, hX, hbl, hlocks, hgv⟩ := id C0
  have hd0 : s.drawn.sameBut s.drawn lw_cs := Drawn.sameBut.refl s.drawn lw_cs
  have hta : ∀ w ∈ lw_all, w.before #[Value.ref b] s = true := fun w h => hts w (pt_all_tbl h)
  have hA : ∀ q : Nat, s.heap.size ≤ q → (fun q : Nat => s.heap.size ≤ q) q := fun _ h => h
  obtain ⟨c0, iS0, k0⟩ := u_known (C := RX0) (T := TX0) (N := 3) (n := 3) hta inX0 (hta _ kw_70)
  obtain ⟨c1, iS1, k1⟩ := u_known (C := RX1) (T := TX1) (N := 7) (n := 7) hta inX1 (hta _ kw_52)
  obtain ⟨c2, iS2, k2⟩ := u_known (C := RX2) (T := TX2) (N := 9) (n := 9) hta inX2 (hta _ kw_291)
  obtain ⟨c3, iS3, k3⟩ := u_known (C := RX3) (T := TX3) (N := 11) (n := 11) hta inX3 (hta _ kw_216)
  obtain ⟨c4, iS4, k4⟩ := u_known (C := RX4) (T := TX4) (N := 4) (n := 4) hta inX4 (hta _ kw_222)
  obtain ⟨c5, iS5, k5⟩ := u_known (C := RX5) (T := TX5) (N := 9) (n := 9) hta inX5 (hta _ kw_64)
  obtain ⟨c6, iS6, k6⟩ := u_known (C := RX6) (T := TX6) (N := 9) (n := 9) hta inX6 (hta _ kw_135)
  obtain ⟨c7, iS7, k7⟩ := u_known (C := RX7) (T := TX7) (N := 5) (n := 5) hta inX7 (hta _ kw_44)
  obtain ⟨D, hKc⟩ : ∃ D : va_G, ∀ (k : Nat) (q : vw_C), pt_cl[k]? = some q → u_Kn s q.1 q.2.1 q.2.2 (D.1 k) (D.2 k) := by
    refine ⟨(fun k => if k = 0 then c0 else if k = 1 then c1 else if k = 2 then c2 else if k = 3 then c3 else if k = 4 then c4 else if k = 5 then c5 else if k = 6 then c6 else c7, fun k => if k = 0 then iS0 else if k = 1 then iS1 else if k = 2 then iS2 else if k = 3 then iS3 else if k = 4 then iS4 else if k = 5 then iS5 else if k = 6 then iS6 else iS7), ?_⟩
    intro k q hq
    match k, hq with
    | 0, hq => cases hq; exact k0
    | 1, hq => cases hq; exact k1
    | 2, hq => cases hq; exact k2
    | 3, hq => cases hq; exact k3
    | 4, hq => cases hq; exact k4
    | 5, hq => cases hq; exact k5
    | 6, hq => cases hq; exact k6
    | 7, hq => cases hq; exact k7
    | k + 8, hq => simp [pt_cl] at hq
  obtain ⟨a0, kA0, comp0, n0, g0, h0⟩ := Cond.arrayClass_spec (hta _ kw_88)
  obtain ⟨comp1, a1, kA1, n1, -, g1, h1, f1⟩ := Cond.arrayOver_spec (hta _ kw_58)
  obtain ⟨comp2, a2, kA2, n2, -, g2, h2, f2⟩ := Cond.arrayOver_spec (hta _ kw_60)
  obtain ⟨comp3, a3, kA3, n3, -, g3, h3, f3⟩ := Cond.arrayOver_spec (hta _ kw_297)
  have hAO : pt_AO s := hts (Cond.arrayOver (.array .int)) (List.mem_of_getElem? (i := 761) rfl)
  obtain ⟨comp4, a4, kA4, n4, -, g4, h4, f4⟩ := arrayOverA_spec hAO
  obtain ⟨cA, hc0, hc1, hc2, hc3, hc4⟩ : ∃ cA : Nat → ClassId, cA 0 = a0 ∧ cA 1 = a1 ∧ cA 2 = a2 ∧ cA 3 = a3 ∧ cA 4 = a4 := ⟨fun k => if k = 0 then a0 else if k = 1 then a1 else if k = 2 then a2 else if k = 3 then a3 else a4, rfl, rfl, rfl, rfl, rfl⟩
  have e4 : comp4 = cA 0 := by rw [hc0]; exact Option.some.inj (n4.symm.trans n0)
  have hAA : pt_AA cA s := ⟨by rw [hc4]; exact fun N z => ⟨(fun k h => by cases h), kA4, g4, comp4, h4⟩, by rw [hc4]; exact f4, kA4, by rw [hc4]; exact g4, by rw [← e4]; exact h4⟩
  have hK : va_K D pt_cl (pt_T cA) s := by
    refine ⟨hKc, fun k q hq => ?_⟩
    match k, hq with
    | 0, hq => cases hq; rw [hc0]; exact ⟨fun N z => ⟨(fun k h => by cases h), kA0, g0, comp0, h0⟩, n0⟩
    | 1, hq => cases hq; rw [hc1]; exact ⟨fun N z => ⟨(fun k h => by cases h), kA1, g1, comp1, h1⟩, kA1, comp1, g1, h1, n1, f1⟩
    | 2, hq => cases hq; rw [hc2]; exact ⟨fun N z => ⟨(fun k h => by cases h), kA2, g2, comp2, h2⟩, kA2, comp2, g2, h2, n2, f2⟩
    | 3, hq => cases hq; rw [hc3]; exact ⟨fun N z => ⟨(fun k h => by cases h), kA3, g3, comp3, h3⟩, kA3, comp3, g3, h3, n3, f3⟩
    | k + 4, hq => simp [pt_T] at hq
  have F : pt_F p m c code 16 s #[Value.ref b] RL D cA := ⟨⟨hx, hb, hml, hown, hta⟩, hK⟩
  have s_cb : 600086 ≤ room_1.cells := Nat.le_of_ble_eq_true rfl
  have s_sb : 7301442 ≤ room_1.slots := Nat.le_of_ble_eq_true rfl
  have hS : va_S (fun q : Nat => s.heap.size ≤ q) s.heap s.heap [] := va_S.rf
  have hP : va_P D pt_cl (([] : va_W) ++ []) s.heap := fun k q h => by simp at h
  have hD : va_D (fun q : Nat => s.heap.size ≤ q) (([] : va_W) ++ []) := ⟨fun i j p q h => by simp at h, fun k q h => by simp at h⟩
  have hXH : ∀ (H : Heap) (locs : List Loc), va_S (fun q : Nat => s.heap.size ≤ q) s.heap H locs → va_X b xL xs s H := fun H locs h => hX.kept (h.2.1 b hbl (Nat.not_le.mpr hbl))
  have hl := lv_entry ([.ref b]) (n := 16) (Nat.le_of_ble_eq_true rfl)
  rw [lg_entry_eq]
  generalize (lg_sl ([.ref b]) ++ List.replicate (16 - (lg_sl ([.ref b])).length) Slot.unset).toArray = ls at hl ⊢
  have hl : lv_has ls 16 [(0, .ref b)] := hl
  refine pt_ynew (ci := 7) (fs := [.null, .null, .null, .null, .int 0]) F hP hD hS hA inX7 tyX7 tyX7_ok kw_43 kw_44 kw_26 rfl (fun j hj => by rcases (show j = 0 ∨ j = 1 ∨ j = 2 ∨ j = 3 ∨ j = 4 by omega) with rfl | rfl | rfl | rfl | rfl <;> rfl) (Nat.le_of_ble_eq_true rfl) (Nat.le_of_ble_eq_true rfl) dL_law_0 (fun q H hP hD hS => ?_)
  refine lv_dup hx hb dL_law_3 rfl ?_
  refine pt_kcall (Y := []) (x := (q, .inr (7, [.null, .null, .null, .null, .int 0]))) (pt_krun (n := 0) (As := []) (rest := [.ref q]) F (mtX7_init l D cA _ q) pt_kblind (fun U hU hW => ⟨by rw [hU], by rw [hU]; exact hP, va_K.moved hW.alike F.2⟩) kw_47 (Or.inl kw_45) kw_26 kw_46 rfl ⟨by decide, by decide, by decide +kernel⟩ ⟨rfl, rfl, Nat.le_of_ble_eq_true rfl, Nat.le_of_ble_eq_true rfl⟩ rfl hl.1 rfl (Nat.le_of_ble_eq_true rfl) dL_law_4 ⟨Nat.le_of_ble_eq_true rfl, Nat.le_of_ble_eq_true rfl⟩) hP hD hS hA (fun u H locs _ hP hD hS => ?_)
  rw [List.nil_append, List.nil_append] at hP hD
  obtain ⟨hP2, hD2⟩ := pk_toW cA q u hP hD
  clear hP hD
  have had : pk_ad q u 0 = q := rfl
  generalize pk_ad q u = ad at hP2 hD2 had
  subst had
  have hP : va_P D pt_cl (pt_W cA ad pt_M0 ++ []) H := by rw [List.append_nil]; exact hP2
  have hD : va_D (fun q : Nat => s.heap.size ≤ q) (pt_W cA ad pt_M0 ++ []) := by rw [List.append_nil]; exact hD2
  clear hP2 hD2
  refine W.widen (k := 387) (n := 4125) (by omega) (by omega) ?_
  have hI : pt_I ad := pt_xI hD
  have hAf : ∀ q, pt_fr ad s.heap.size q → (fun q : Nat => s.heap.size ≤ q) q := pt_xA hD hA
  have hbad : ∀ k, k < 387 → b ≠ ad k := fun k hk e => by
    have := hAf (ad k) (Or.inl ⟨k, hk, rfl⟩)
    have h2 : s.heap.size ≤ ad k := this
    omega
  refine W.eq (g2 := F0 m 7 ls [.ref (ad 0)]) rfl ?_
  obtain ⟨Q, hw⟩ : ∃ Q : Unit, wpL_law xL xs Q := ⟨(), hw⟩
  clear h0 h1 h2 h3 h4
  have J570 : ∀ (xs0 : Int32) (M : pt_M) (H : Heap) (locs : List Loc) (ls : Array Slot), wjL_law_570 xL xs Q xs0 M → va_P D pt_cl (pt_W cA ad M ++ []) H → va_D (fun q : Nat => s.heap.size ≤ q) (pt_W cA ad M ++ []) → va_S (fun q : Nat => s.heap.size ≤ q) s.heap H locs → lv_has ls 16 [] → W p l e room_1 s m #[Value.ref b] below meth c H locs 1249 59293 (lw_Z below #[Value.ref b] s) (F0 m 570 ls [.int xs0]) := by
    intro xs0 M H locs ls hw hP hD hS hl
    unfold wjL_law_570 at hw
    subst hw
    refine va_forget (fun q hq => hS.2.2 q hq) ?_
    refine W.widen (k := 600086) (n := 7301442) (Nat.le_of_ble_eq_true rfl) (Nat.le_of_ble_eq_true rfl) ?_
    exact lw_ret hd0 hx hb hr hlocks dL_law_570
  have J565 : ∀ (M : pt_M) (H : Heap) (locs : List Loc) (ls : Array Slot), wjL_law_565 xL xs Q M → va_P D pt_cl (pt_W cA ad M ++ []) H → va_D (fun q : Nat => s.heap.size ≤ q) (pt_W cA ad M ++ []) → va_S (fun q : Nat => s.heap.size ≤ q) s.heap H locs → lv_has ls 16 [] → W p l e room_1 s m #[Value.ref b] below meth c H locs 1249 59293 (lw_Z below #[Value.ref b] s) (F0 m 565 ls []) := by
    intro M H locs ls hw hP hD hS hl
    unfold wjL_law_565 at hw
    refine lv_iconst (v := 1) hx hb dL_law_565 (by decide) ?_
    refine lv_goto (tgt := 570) hx hb dL_law_566 (by decide) ?_
    exact J570 1 M _ _ _ hw (pt_xpick hP [] rfl) (pt_xpickD hD [] (by decide) rfl) hS (lv_sub hl [] rfl)
  have L505 : ∀ (n505 : Nat) (x4 : Int32) (x6 : Int32) (x8 : Int32) (a7 : Nat) (f7 : Nat → Int32) (M : pt_M) (H : Heap) (locs : List Loc) (ls : Array Slot), lpL_law_505 xL xs Q n505 x4 x6 x8 f7 M → va_P D pt_cl (pt_W cA ad M ++ [(a7, .inl (cA 0, 2, .inl f7))]) H → va_D (fun q : Nat => s.heap.size ≤ q) (pt_W cA ad M ++ [(a7, .inl (cA 0, 2, .inl f7))]) → va_S (fun q : Nat => s.heap.size ≤ q) s.heap H locs → lv_has ls 16 [(1, .ref (ad 0)), (4, .int x4), (6, .int x6), (7, .ref a7), (8, .int x8)] → W p l e room_1 s m #[Value.ref b] below meth c H locs 1249 59293 (lw_Z below #[Value.ref b] s) (F0 m 505 ls []) := by
    intro n505
    induction n505 with
    | zero => intro x4 x6 x8 a7 f7 M H locs ls hw; exact hw.elim
    | succ n505 ih505 =>
      have J541 : ∀ (x4 : Int32) (x6 : Int32) (x8 : Int32) (a7 : Nat) (f7 : Nat → Int32) (M : pt_M) (H : Heap) (locs : List Loc) (ls : Array Slot), wjL_law_541 xL xs Q (lpL_law_505 xL xs Q n505) x4 x6 x8 f7 M → va_P D pt_cl (pt_W cA ad M ++ [(a7, .inl (cA 0, 2, .inl f7))]) H → va_D (fun q : Nat => s.heap.size ≤ q) (pt_W cA ad M ++ [(a7, .inl (cA 0, 2, .inl f7))]) → va_S (fun q : Nat => s.heap.size ≤ q) s.heap H locs → lv_has ls 16 [(1, .ref (ad 0)), (4, .int x4), (6, .int x6), (7, .ref a7), (8, .int x8)] → W p l e room_1 s m #[Value.ref b] below meth c H locs 1249 59293 (lw_Z below #[Value.ref b] s) (F0 m 541 ls []) := by
        intro x4 x6 x8 a7 f7 M H locs ls hw hP hD hS hl
        unfold wjL_law_541 at hw
        obtain ⟨x8_541, ex8_541⟩ : ∃ y : Int32, y = x8 + 1 := ⟨_, rfl⟩
        replace hw := hw x8_541 ex8_541
        refine lv_iinc (v := x8_541) (lv' := [(8, .int x8_541), (1, .ref (ad 0)), (4, .int x4), (6, .int x6), (7, .ref a7)]) hx hb dL_law_541 hl (k := 4) rfl (by rw [ex8_541]; rfl) (by decide) rfl (fun ls hl => ?_)
        refine lv_goto (tgt := 505) hx hb dL_law_544 (by decide) ?_
        exact ih505 x4 x6 x8_541 a7 f7 M _ _ _ hw (pt_xpick hP [0] rfl) (pt_xpickD hD [0] (by decide) rfl) hS (lv_sub hl [1, 2, 3, 4, 0] rfl)
      intro x4 x6 x8 a7 f7 M H locs ls hw hP hD hS hl
      replace hw : lbL_law_505 xL xs Q (lpL_law_505 xL xs Q n505) x4 x6 x8 f7 M := hw
      unfold lbL_law_505 at hw
      refine lv_iload hx hb dL_law_505 (lv_at hl 4 rfl) ?_
      refine lv_iload hx hb dL_law_507 (lv_at hl 2 rfl) ?_
      refine lv_icmp_ge (tgt := 547) hx hb dL_law_509 (by decide) (fun hc509 => ?_) (fun hc509 => ?_)
      · replace hw := hw.1 hc509
        refine lv_iload hx hb dL_law_547 (lv_at hl 2 rfl) ?_
        refine lv_if_lt (tgt := 565) hx hb dL_law_549 (by decide) (fun hc549 => ?_) (fun hc549 => ?_)
        · replace hw := hw.1 hc549
          exact J565 M _ _ _ hw (pt_xpick hP [] rfl) (pt_xpickD hD [] (by decide) rfl) hS (lv_sub hl [] rfl)
        · replace hw := hw.2 hc549
          refine lv_aload_n hx hb dL_law_552 rfl (lv_at hl 0 rfl) ?_
          refine pt_calli (pt_runV (n := 0) (As := []) (rest := []) F (pt_xP.mp hP).1 (pt_c7 _ pt_k0) (pt_l7 pt_k0) rfl (mtX7_active l D cA ad hI _ M _ hw) kw_592 kw_589 kw_26 kw_590 kw_591 ⟨by decide, by decide, by decide +kernel⟩ ⟨rfl, rfl, Nat.le_of_ble_eq_true rfl, Nat.le_of_ble_eq_true rfl⟩ rfl hl.1 rfl (Nat.le_of_ble_eq_true rfl) dL_law_553 ⟨(Nat.le_trans (by omega) s_cb), (Nat.le_trans (by omega) s_sb)⟩) hS hAf (fun r_553 M_553 H_ locs hw hP1 hS _ ho => ?_)
          replace hP := pt_xback hP hD hP1 ho
          replace hD := pt_xeng (M1 := M_553) hD
          clear hP1 ho
          refine lv_iload hx hb dL_law_556 (lv_at hl 1 rfl) ?_
          refine lv_ishr hx hb dL_law_558 ?_
          refine lv_iconst (v := 1) hx hb dL_law_559 (by decide) ?_
          refine lv_iand hx hb dL_law_560 ?_
          refine lv_iconst (v := 1) hx hb dL_law_561 (by decide) ?_
          refine lv_icmp_ne (tgt := 569) hx hb dL_law_562 (by decide) (fun hc562 => ?_) (fun hc562 => ?_)
          · replace hw := hw.1 hc562
            refine lv_iconst (v := 0) hx hb dL_law_569 (by decide) ?_
            exact J570 0 M_553 _ _ _ hw (pt_xpick hP [] rfl) (pt_xpickD hD [] (by decide) rfl) hS (lv_sub hl [] rfl)
          · replace hw := hw.2 hc562
            exact J565 M_553 _ _ _ hw (pt_xpick hP [] rfl) (pt_xpickD hD [] (by decide) rfl) hS (lv_sub hl [] rfl)
      · replace hw := hw.2 hc509
        refine lv_aload hx hb dL_law_512 (lv_at hl 3 rfl) ?_
        refine lv_iload hx hb dL_law_514 (lv_at hl 4 rfl) ?_
        have hv516 := hw.1
        replace hw := hw.2
        refine pt_xild F hP 0 rfl hv516 dL_law_516 ?_
        refine lv_bipush (v := 10) hx hb dL_law_517 (by decide) ?_
        refine lv_icmp_ge (tgt := 535) hx hb dL_law_519 (by decide) (fun hc519 => ?_) (fun hc519 => ?_)
        · replace hw := hw.1 hc519
          refine lv_aload_n hx hb dL_law_535 rfl (lv_at hl 0 rfl) ?_
          refine lv_iconst (v := 1) hx hb dL_law_536 (by decide) ?_
          refine pt_calli (pt_runV (n := 1) (As := [.int 1]) (rest := []) F (pt_xP.mp hP).1 (pt_c7 _ pt_k0) (pt_l7 pt_k0) rfl (mtX7_tick l D cA ad hI _ 1 M _ hw) kw_584 kw_581 kw_26 kw_582 kw_583 ⟨by decide, by decide, by decide +kernel⟩ ⟨rfl, rfl, Nat.le_of_ble_eq_true rfl, Nat.le_of_ble_eq_true rfl⟩ rfl hl.1 rfl (Nat.le_of_ble_eq_true rfl) dL_law_537 ⟨(Nat.le_trans (by omega) s_cb), (Nat.le_trans (by omega) s_sb)⟩) hS hAf (fun r_537 M_537 H_ locs hw hP1 hS _ ho => ?_)
          replace hP := pt_xback hP hD hP1 ho
          replace hD := pt_xeng (M1 := M_537) hD
          clear hP1 ho
          refine lv_pop hx hb dL_law_540 rfl ?_
          exact J541 x4 x6 x8 a7 f7 M_537 _ _ _ hw (pt_xpick hP [0] rfl) (pt_xpickD hD [0] (by decide) rfl) hS (lv_sub hl [0, 1, 2, 3, 4] rfl)
        · replace hw := hw.2 hc519
          refine lv_aload_n hx hb dL_law_522 rfl (lv_at hl 0 rfl) ?_
          refine lv_aload hx hb dL_law_523 (lv_at hl 3 rfl) ?_
          refine lv_iload hx hb dL_law_525 (lv_at hl 4 rfl) ?_
          have hv527 := hw.1
          replace hw := hw.2
          refine pt_xild F hP 0 rfl hv527 dL_law_527 ?_
          refine pt_calli (pt_runV (n := 1) (As := [.int (f7 (Int32.toNatClampNeg x8))]) (rest := []) F (pt_xP.mp hP).1 (pt_c7 _ pt_k0) (pt_l7 pt_k0) rfl (mtX7_send l D cA ad hI _ (f7 (Int32.toNatClampNeg x8)) M _ hw) kw_555 kw_552 kw_26 kw_553 kw_554 ⟨by decide, by decide, by decide +kernel⟩ ⟨rfl, rfl, Nat.le_of_ble_eq_true rfl, Nat.le_of_ble_eq_true rfl⟩ rfl hl.1 rfl (Nat.le_of_ble_eq_true rfl) dL_law_528 ⟨(Nat.le_trans (by omega) s_cb), (Nat.le_trans (by omega) s_sb)⟩) hS hAf (fun r_528 M_528 H_ locs hw hP1 hS _ ho => ?_)
          replace hP := pt_xback hP hD hP1 ho
          replace hD := pt_xeng (M1 := M_528) hD
          clear hP1 ho
          refine lv_pop hx hb dL_law_531 rfl ?_
          refine lv_goto (tgt := 541) hx hb dL_law_532 (by decide) ?_
          exact J541 x4 x6 x8 a7 f7 M_528 _ _ _ hw (pt_xpick hP [0] rfl) (pt_xpickD hD [0] (by decide) rfl) hS (lv_sub hl [0, 1, 2, 3, 4] rfl)
  have J494 : ∀ (M : pt_M) (H : Heap) (locs : List Loc) (ls : Array Slot), wjL_law_494 xL xs Q M → va_P D pt_cl (pt_W cA ad M ++ []) H → va_D (fun q : Nat => s.heap.size ≤ q) (pt_W cA ad M ++ []) → va_S (fun q : Nat => s.heap.size ≤ q) s.heap H locs → lv_has ls 16 [] → W p l e room_1 s m #[Value.ref b] below meth c H locs 1249 59293 (lw_Z below #[Value.ref b] s) (F0 m 494 ls []) := by
    intro M H locs ls hw hP hD hS hl
    unfold wjL_law_494 at hw
    refine lv_iconst (v := 0) hx hb dL_law_494 (by decide) ?_
    exact hw.elim
  have L450 : ∀ (n450 : Nat) (x4 : Int32) (x6 : Int32) (x8 : Int32) (a7 : Nat) (f7 : Nat → Int32) (M : pt_M) (H : Heap) (locs : List Loc) (ls : Array Slot), lpL_law_450 xL xs Q n450 x4 x6 x8 f7 M → va_P D pt_cl (pt_W cA ad M ++ [(a7, .inl (cA 0, 2, .inl f7))]) H → va_D (fun q : Nat => s.heap.size ≤ q) (pt_W cA ad M ++ [(a7, .inl (cA 0, 2, .inl f7))]) → va_S (fun q : Nat => s.heap.size ≤ q) s.heap H locs → lv_has ls 16 [(1, .ref (ad 0)), (4, .int x4), (6, .int x6), (7, .ref a7), (8, .int x8)] → W p l e room_1 s m #[Value.ref b] below meth c H locs 1249 59293 (lw_Z below #[Value.ref b] s) (F0 m 450 ls []) := by
    intro n450
    induction n450 with
    | zero => intro x4 x6 x8 a7 f7 M H locs ls hw; exact hw.elim
    | succ n450 ih450 =>
      have J481 : ∀ (x4 : Int32) (x6 : Int32) (x8 : Int32) (xs0 : Int32) (xs1 : Int32) (a7 : Nat) (f7 : Nat → Int32) (M : pt_M) (H : Heap) (locs : List Loc) (ls : Array Slot), wjL_law_481 xL xs Q (lpL_law_450 xL xs Q n450) x4 x6 x8 xs0 xs1 f7 M → va_P D pt_cl (pt_W cA ad M ++ [(a7, .inl (cA 0, 2, .inl f7))]) H → va_D (fun q : Nat => s.heap.size ≤ q) (pt_W cA ad M ++ [(a7, .inl (cA 0, 2, .inl f7))]) → va_S (fun q : Nat => s.heap.size ≤ q) s.heap H locs → lv_has ls 16 [(1, .ref (ad 0)), (4, .int x4), (6, .int x6), (7, .ref a7), (8, .int x8)] → W p l e room_1 s m #[Value.ref b] below meth c H locs 1249 59293 (lw_Z below #[Value.ref b] s) (F0 m 481 ls [.int xs1, .int xs0]) := by
        intro x4 x6 x8 xs0 xs1 a7 f7 M H locs ls hw hP hD hS hl
        unfold wjL_law_481 at hw
        refine lv_icmp_ne (tgt := 494) hx hb dL_law_481 (by decide) (fun hc481 => ?_) (fun hc481 => ?_)
        · replace hw := hw.1 hc481
          exact J494 M _ _ _ hw (pt_xpick hP [] rfl) (pt_xpickD hD [] (by decide) rfl) hS (lv_sub hl [] rfl)
        · replace hw := hw.2 hc481
          refine lv_aload hx hb dL_law_484 (lv_at hl 3 rfl) ?_
          refine lv_iload hx hb dL_law_486 (lv_at hl 4 rfl) ?_
          have hv488 := hw.1
          replace hw := hw.2
          refine pt_xild F hP 0 rfl hv488 dL_law_488 ?_
          refine lv_bipush (v := 10) hx hb dL_law_489 (by decide) ?_
          refine lv_icmp_le (tgt := 496) hx hb dL_law_491 (by decide) (fun hc491 => ?_) (fun hc491 => ?_)
          · replace hw := hw.1 hc491
            obtain ⟨x8_496, ex8_496⟩ : ∃ y : Int32, y = x8 + 1 := ⟨_, rfl⟩
            replace hw := hw x8_496 ex8_496
            refine lv_iinc (v := x8_496) (lv' := [(8, .int x8_496), (1, .ref (ad 0)), (4, .int x4), (6, .int x6), (7, .ref a7)]) hx hb dL_law_496 hl (k := 4) rfl (by rw [ex8_496]; rfl) (by decide) rfl (fun ls hl => ?_)
            refine lv_goto (tgt := 450) hx hb dL_law_499 (by decide) ?_
            exact ih450 x4 x6 x8_496 a7 f7 M _ _ _ hw (pt_xpick hP [0] rfl) (pt_xpickD hD [0] (by decide) rfl) hS (lv_sub hl [1, 2, 3, 4, 0] rfl)
          · replace hw := hw.2 hc491
            exact J494 M _ _ _ hw (pt_xpick hP [] rfl) (pt_xpickD hD [] (by decide) rfl) hS (lv_sub hl [] rfl)
      have J469 : ∀ (x4 : Int32) (x6 : Int32) (x8 : Int32) (xs0 : Int32) (a7 : Nat) (f7 : Nat → Int32) (M : pt_M) (H : Heap) (locs : List Loc) (ls : Array Slot), wjL_law_469 xL xs Q (lpL_law_450 xL xs Q n450) x4 x6 x8 xs0 f7 M → va_P D pt_cl (pt_W cA ad M ++ [(a7, .inl (cA 0, 2, .inl f7))]) H → va_D (fun q : Nat => s.heap.size ≤ q) (pt_W cA ad M ++ [(a7, .inl (cA 0, 2, .inl f7))]) → va_S (fun q : Nat => s.heap.size ≤ q) s.heap H locs → lv_has ls 16 [(1, .ref (ad 0)), (4, .int x4), (6, .int x6), (7, .ref a7), (8, .int x8)] → W p l e room_1 s m #[Value.ref b] below meth c H locs 1249 59293 (lw_Z below #[Value.ref b] s) (F0 m 469 ls [.int xs0]) := by
        intro x4 x6 x8 xs0 a7 f7 M H locs ls hw hP hD hS hl
        unfold wjL_law_469 at hw
        refine lv_iload hx hb dL_law_469 (lv_at hl 4 rfl) ?_
        refine lv_iload hx hb dL_law_471 (lv_at hl 2 rfl) ?_
        refine lv_icmp_ge (tgt := 480) hx hb dL_law_473 (by decide) (fun hc473 => ?_) (fun hc473 => ?_)
        · replace hw := hw.1 hc473
          refine lv_iconst (v := 0) hx hb dL_law_480 (by decide) ?_
          exact J481 x4 x6 x8 xs0 0 a7 f7 M _ _ _ hw (pt_xpick hP [0] rfl) (pt_xpickD hD [0] (by decide) rfl) hS (lv_sub hl [0, 1, 2, 3, 4] rfl)
        · replace hw := hw.2 hc473
          refine lv_iconst (v := 1) hx hb dL_law_476 (by decide) ?_
          refine lv_goto (tgt := 481) hx hb dL_law_477 (by decide) ?_
          exact J481 x4 x6 x8 xs0 1 a7 f7 M _ _ _ hw (pt_xpick hP [0] rfl) (pt_xpickD hD [0] (by decide) rfl) hS (lv_sub hl [0, 1, 2, 3, 4] rfl)
      intro x4 x6 x8 a7 f7 M H locs ls hw hP hD hS hl
      replace hw : lbL_law_450 xL xs Q (lpL_law_450 xL xs Q n450) x4 x6 x8 f7 M := hw
      unfold lbL_law_450 at hw
      refine lv_iload hx hb dL_law_450 (lv_at hl 4 rfl) ?_
      refine lv_iconst (v := 2) hx hb dL_law_452 (by decide) ?_
      refine lv_icmp_ge (tgt := 502) hx hb dL_law_453 (by decide) (fun hc453 => ?_) (fun hc453 => ?_)
      · replace hw := hw.1 hc453
        refine lv_iconst (v := 0) hx hb dL_law_502 (by decide) ?_
        refine lv_istore (lv' := [(8, .int 0), (1, .ref (ad 0)), (4, .int x4), (6, .int x6), (7, .ref a7)]) hx hb dL_law_503 hl (by decide) rfl (fun ls hl => ?_)
        obtain ⟨n_, hw⟩ := hw
        exact L505 n_ x4 x6 0 a7 f7 M _ _ _ hw (pt_xpick hP [0] rfl) (pt_xpickD hD [0] (by decide) rfl) hS (lv_sub hl [1, 2, 3, 4, 0] rfl)
      · replace hw := hw.2 hc453
        refine lv_aload hx hb dL_law_456 (lv_at hl 3 rfl) ?_
        refine lv_iload hx hb dL_law_458 (lv_at hl 4 rfl) ?_
        have hv460 := hw.1
        replace hw := hw.2
        refine pt_xild F hP 0 rfl hv460 dL_law_460 ?_
        refine lv_if_lt (tgt := 468) hx hb dL_law_461 (by decide) (fun hc461 => ?_) (fun hc461 => ?_)
        · replace hw := hw.1 hc461
          refine lv_iconst (v := 0) hx hb dL_law_468 (by decide) ?_
          exact J469 x4 x6 x8 0 a7 f7 M _ _ _ hw (pt_xpick hP [0] rfl) (pt_xpickD hD [0] (by decide) rfl) hS (lv_sub hl [0, 1, 2, 3, 4] rfl)
        · replace hw := hw.2 hc461
          refine lv_iconst (v := 1) hx hb dL_law_464 (by decide) ?_
          refine lv_goto (tgt := 469) hx hb dL_law_465 (by decide) ?_
          exact J469 x4 x6 x8 1 a7 f7 M _ _ _ hw (pt_xpick hP [0] rfl) (pt_xpickD hD [0] (by decide) rfl) hS (lv_sub hl [0, 1, 2, 3, 4] rfl)
  have J426 : ∀ (x4 : Int32) (x6 : Int32) (M : pt_M) (H : Heap) (locs : List Loc) (ls : Array Slot), wjL_law_426 xL xs Q x4 x6 M → va_P D pt_cl (pt_W cA ad M ++ []) H → va_D (fun q : Nat => s.heap.size ≤ q) (pt_W cA ad M ++ []) → va_S (fun q : Nat => s.heap.size ≤ q) s.heap H locs → lv_has ls 16 [(1, .ref (ad 0)), (4, .int x4), (6, .int x6)] → W p l e room_1 s m #[Value.ref b] below meth c H locs 1248 59229 (lw_Z below #[Value.ref b] s) (F0 m 426 ls []) := by
    intro x4 x6 M H locs ls hw hP hD hS hl
    unfold wjL_law_426 at hw
    refine lv_iconst (v := 2) hx hb dL_law_426 (by decide) ?_
    refine pt_xnew (N := 2) F hP hD hS hA kw_88 (by decide) (by decide) (by decide) (Nat.le_trans (by omega) s_cb) (Nat.le_trans (by omega) s_sb) dL_law_427 (fun q_427 H hP hD hS => ?_)
    replace hP : va_P D pt_cl (pt_W cA ad M ++ [(q_427, .inl (cA 0, 2, .inl (fun _ => 0)))]) H := hP
    replace hD : va_D (fun q : Nat => s.heap.size ≤ q) (pt_W cA ad M ++ [(q_427, .inl (cA 0, 2, .inl (fun _ => 0)))]) := hD
    refine W.widen (k := 1249) (n := 59293) (by omega) (by omega) ?_
    refine lv_dup hx hb dL_law_429 rfl ?_
    refine lv_iconst (v := 0) hx hb dL_law_430 (by decide) ?_
    refine lv_aload_n hx hb dL_law_431 rfl (lv_at hl 0 rfl) ?_
    refine lv_iconst (v := 0) hx hb dL_law_432 (by decide) ?_
    refine pt_calli (pt_runV (n := 1) (As := [.int 0]) (rest := [.int 0, .ref q_427, .ref q_427]) F (pt_xP.mp hP).1 (pt_c7 _ pt_k0) (pt_l7 pt_k0) rfl (mtX7_rowAt l D cA ad hI _ 0 M _ hw) kw_696 kw_693 kw_26 kw_694 kw_695 ⟨by decide, by decide, by decide +kernel⟩ ⟨rfl, rfl, Nat.le_of_ble_eq_true rfl, Nat.le_of_ble_eq_true rfl⟩ rfl hl.1 rfl (Nat.le_of_ble_eq_true rfl) dL_law_433 ⟨(Nat.le_trans (by omega) s_cb), (Nat.le_trans (by omega) s_sb)⟩) hS hAf (fun r_433 M_433 H_ locs hw hP1 hS _ ho => ?_)
    replace hP := pt_xback hP hD hP1 ho
    replace hD := pt_xeng (M1 := M_433) hD
    clear hP1 ho
    refine pt_xist (Y' := fun f1 => [(q_427, .inl (cA 0, 2, .inl f1))]) F hP hD hS 0 rfl (pt_inL (by decide) (by decide)) dL_law_436 (fun _ => rfl) (fun f_436 H locs ef_436 hP hD hS => ?_)
    replace hw := hw f_436 ef_436
    refine lv_dup hx hb dL_law_437 rfl ?_
    refine lv_iconst (v := 1) hx hb dL_law_438 (by decide) ?_
    refine lv_aload_n hx hb dL_law_439 rfl (lv_at hl 0 rfl) ?_
    refine lv_iconst (v := 1) hx hb dL_law_440 (by decide) ?_
    refine pt_calli (pt_runV (n := 1) (As := [.int 1]) (rest := [.int 1, .ref q_427, .ref q_427]) F (pt_xP.mp hP).1 (pt_c7 _ pt_k0) (pt_l7 pt_k0) rfl (mtX7_rowAt l D cA ad hI _ 1 M_433 _ hw) kw_696 kw_693 kw_26 kw_694 kw_695 ⟨by decide, by decide, by decide +kernel⟩ ⟨rfl, rfl, Nat.le_of_ble_eq_true rfl, Nat.le_of_ble_eq_true rfl⟩ rfl hl.1 rfl (Nat.le_of_ble_eq_true rfl) dL_law_441 ⟨(Nat.le_trans (by omega) s_cb), (Nat.le_trans (by omega) s_sb)⟩) hS hAf (fun r_441 M_441 H_ locs hw hP1 hS _ ho => ?_)
    replace hP := pt_xback hP hD hP1 ho
    replace hD := pt_xeng (M1 := M_441) hD
    clear hP1 ho
    refine pt_xist (Y' := fun f1 => [(q_427, .inl (cA 0, 2, .inl f1))]) F hP hD hS 0 rfl (pt_inL (by decide) (by decide)) dL_law_444 (fun _ => rfl) (fun f_444 H locs ef_444 hP hD hS => ?_)
    replace hw := hw f_444 ef_444
    refine lv_astore (lv' := [(7, .ref q_427), (1, .ref (ad 0)), (4, .int x4), (6, .int x6)]) hx hb dL_law_445 hl (by decide) rfl (fun ls hl => ?_)
    refine lv_iconst (v := 0) hx hb dL_law_447 (by decide) ?_
    refine lv_istore (lv' := [(8, .int 0), (7, .ref q_427), (1, .ref (ad 0)), (4, .int x4), (6, .int x6)]) hx hb dL_law_448 hl (by decide) rfl (fun ls hl => ?_)
    obtain ⟨n_, hw⟩ := hw
    exact L450 n_ x4 x6 0 q_427 f_444 M_441 _ _ _ hw (pt_xpick hP [0] rfl) (pt_xpickD hD [0] (by decide) rfl) hS (lv_sub hl [2, 3, 4, 1, 0] rfl)
  have J424 : ∀ (M : pt_M) (H : Heap) (locs : List Loc) (ls : Array Slot), wjL_law_424 xL xs Q M → va_P D pt_cl (pt_W cA ad M ++ []) H → va_D (fun q : Nat => s.heap.size ≤ q) (pt_W cA ad M ++ []) → va_S (fun q : Nat => s.heap.size ≤ q) s.heap H locs → lv_has ls 16 [] → W p l e room_1 s m #[Value.ref b] below meth c H locs 1248 59229 (lw_Z below #[Value.ref b] s) (F0 m 424 ls []) := by
    intro M H locs ls hw hP hD hS hl
    unfold wjL_law_424 at hw
    refine lv_iconst (v := 0) hx hb dL_law_424 (by decide) ?_
    exact hw.elim
  have J401 : ∀ (x4 : Int32) (x6 : Int32) (xs0 : Int32) (xs1 : Int32) (a2 : Nat) (n2 : Nat) (f2 : Nat → Int32) (M : pt_M) (H : Heap) (locs : List Loc) (ls : Array Slot), wjL_law_401 xL xs Q x4 x6 xs0 xs1 n2 f2 M → va_P D pt_cl (pt_W cA ad M ++ [(a2, .inl (cA 0, n2, .inl f2))]) H → va_D (fun q : Nat => s.heap.size ≤ q) (pt_W cA ad M ++ [(a2, .inl (cA 0, n2, .inl f2))]) → va_S (fun q : Nat => s.heap.size ≤ q) s.heap H locs → lv_has ls 16 [(1, .ref (ad 0)), (2, .ref a2), (4, .int x4), (6, .int x6)] → W p l e room_1 s m #[Value.ref b] below meth c H locs 1248 59229 (lw_Z below #[Value.ref b] s) (F0 m 401 ls [.int xs1, .int xs0]) := by
    intro x4 x6 xs0 xs1 a2 n2 f2 M H locs ls hw hP hD hS hl
    unfold wjL_law_401 at hw
    refine lv_icmp_ne (tgt := 424) hx hb dL_law_401 (by decide) (fun hc401 => ?_) (fun hc401 => ?_)
    · replace hw := hw.1 hc401
      exact J424 M _ _ _ hw (pt_xpick hP [] rfl) (pt_xpickD hD [] (by decide) rfl) hS (lv_sub hl [] rfl)
    · replace hw := hw.2 hc401
      refine lv_iload hx hb dL_law_404 (lv_at hl 3 rfl) ?_
      refine lv_iconst (v := 2) hx hb dL_law_406 (by decide) ?_
      refine lv_icmp_gt (tgt := 424) hx hb dL_law_407 (by decide) (fun hc407 => ?_) (fun hc407 => ?_)
      · replace hw := hw.1 hc407
        exact J424 M _ _ _ hw (pt_xpick hP [] rfl) (pt_xpickD hD [] (by decide) rfl) hS (lv_sub hl [] rfl)
      · replace hw := hw.2 hc407
        refine lv_aload_n hx hb dL_law_410 rfl (lv_at hl 1 rfl) ?_
        refine lv_iload hx hb dL_law_411 (lv_at hl 2 rfl) ?_
        have hv413 := hw.1
        replace hw := hw.2
        refine pt_xild F hP 0 rfl hv413 dL_law_413 ?_
        refine lv_iconst (v := 2) hx hb dL_law_414 (by decide) ?_
        refine lv_icmp_le (tgt := 426) hx hb dL_law_415 (by decide) (fun hc415 => ?_) (fun hc415 => ?_)
        · replace hw := hw.1 hc415
          exact J426 x4 x6 M _ _ _ hw (pt_xpick hP [] rfl) (pt_xpickD hD [] (by decide) rfl) hS (lv_sub hl [0, 2, 3] rfl)
        · replace hw := hw.2 hc415
          refine lv_iload hx hb dL_law_418 (lv_at hl 3 rfl) ?_
          refine lv_iconst (v := (-1)) hx hb dL_law_420 (by decide) ?_
          refine lv_icmp_eq (tgt := 426) hx hb dL_law_421 (by decide) (fun hc421 => ?_) (fun hc421 => ?_)
          · replace hw := hw.1 hc421
            exact J426 x4 x6 M _ _ _ hw (pt_xpick hP [] rfl) (pt_xpickD hD [] (by decide) rfl) hS (lv_sub hl [0, 2, 3] rfl)
          · replace hw := hw.2 hc421
            exact J424 M _ _ _ hw (pt_xpick hP [] rfl) (pt_xpickD hD [] (by decide) rfl) hS (lv_sub hl [] rfl)
  have J385 : ∀ (x4 : Int32) (x5 : Int32) (x6 : Int32) (xs0 : Int32) (a2 : Nat) (n2 : Nat) (f2 : Nat → Int32) (M : pt_M) (H : Heap) (locs : List Loc) (ls : Array Slot), wjL_law_385 xL xs Q x4 x5 x6 xs0 n2 f2 M → va_P D pt_cl (pt_W cA ad M ++ [(a2, .inl (cA 0, n2, .inl f2))]) H → va_D (fun q : Nat => s.heap.size ≤ q) (pt_W cA ad M ++ [(a2, .inl (cA 0, n2, .inl f2))]) → va_S (fun q : Nat => s.heap.size ≤ q) s.heap H locs → lv_has ls 16 [(1, .ref (ad 0)), (2, .ref a2), (4, .int x4), (5, .int x5), (6, .int x6)] → W p l e room_1 s m #[Value.ref b] below meth c H locs 1248 59229 (lw_Z below #[Value.ref b] s) (F0 m 385 ls [.int xs0]) := by
    intro x4 x5 x6 xs0 a2 n2 f2 M H locs ls hw hP hD hS hl
    unfold wjL_law_385 at hw
    refine lv_iload hx hb dL_law_385 (lv_at hl 3 rfl) ?_
    refine lv_iload hx hb dL_law_387 (lv_at hl 2 rfl) ?_
    refine lv_ishr hx hb dL_law_389 ?_
    refine lv_iconst (v := 1) hx hb dL_law_390 (by decide) ?_
    refine lv_iand hx hb dL_law_391 ?_
    refine lv_iconst (v := 1) hx hb dL_law_392 (by decide) ?_
    refine lv_icmp_ne (tgt := 400) hx hb dL_law_393 (by decide) (fun hc393 => ?_) (fun hc393 => ?_)
    · replace hw := hw.1 hc393
      refine lv_iconst (v := 0) hx hb dL_law_400 (by decide) ?_
      exact J401 x4 x6 xs0 0 a2 n2 f2 M _ _ _ hw (pt_xpick hP [0] rfl) (pt_xpickD hD [0] (by decide) rfl) hS (lv_sub hl [0, 1, 2, 4] rfl)
    · replace hw := hw.2 hc393
      refine lv_iconst (v := 1) hx hb dL_law_396 (by decide) ?_
      refine lv_goto (tgt := 401) hx hb dL_law_397 (by decide) ?_
      exact J401 x4 x6 xs0 1 a2 n2 f2 M _ _ _ hw (pt_xpick hP [0] rfl) (pt_xpickD hD [0] (by decide) rfl) hS (lv_sub hl [0, 1, 2, 4] rfl)
  have J330 : ∀ (M : pt_M) (H : Heap) (locs : List Loc) (ls : Array Slot), wjL_law_330 xL xs Q M → va_P D pt_cl (pt_W cA ad M ++ []) H → va_D (fun q : Nat => s.heap.size ≤ q) (pt_W cA ad M ++ []) → va_S (fun q : Nat => s.heap.size ≤ q) s.heap H locs → lv_has ls 16 [] → W p l e room_1 s m #[Value.ref b] below meth c H locs 1248 59229 (lw_Z below #[Value.ref b] s) (F0 m 330 ls []) := by
    intro M H locs ls hw hP hD hS hl
    unfold wjL_law_330 at hw
    refine lv_iconst (v := 0) hx hb dL_law_330 (by decide) ?_
    exact hw.elim
  have J236 : ∀ (M : pt_M) (H : Heap) (locs : List Loc) (ls : Array Slot), wjL_law_236 xL xs Q M → va_P D pt_cl (pt_W cA ad M ++ []) H → va_D (fun q : Nat => s.heap.size ≤ q) (pt_W cA ad M ++ []) → va_S (fun q : Nat => s.heap.size ≤ q) s.heap H locs → lv_has ls 16 [] → W p l e room_1 s m #[Value.ref b] below meth c H locs 1248 59229 (lw_Z below #[Value.ref b] s) (F0 m 236 ls []) := by
    intro M H locs ls hw hP hD hS hl
    unfold wjL_law_236 at hw
    refine lv_iconst (v := 0) hx hb dL_law_236 (by decide) ?_
    exact hw.elim
  have J178 : ∀ (M : pt_M) (H : Heap) (locs : List Loc) (ls : Array Slot), wjL_law_178 xL xs Q M → va_P D pt_cl (pt_W cA ad M ++ []) H → va_D (fun q : Nat => s.heap.size ≤ q) (pt_W cA ad M ++ []) → va_S (fun q : Nat => s.heap.size ≤ q) s.heap H locs → lv_has ls 16 [] → W p l e room_1 s m #[Value.ref b] below meth c H locs 1248 59229 (lw_Z below #[Value.ref b] s) (F0 m 178 ls []) := by
    intro M H locs ls hw hP hD hS hl
    unfold wjL_law_178 at hw
    refine lv_iconst (v := 0) hx hb dL_law_178 (by decide) ?_
    exact hw.elim
  have J147 : ∀ (M : pt_M) (H : Heap) (locs : List Loc) (ls : Array Slot), wjL_law_147 xL xs Q M → va_P D pt_cl (pt_W cA ad M ++ []) H → va_D (fun q : Nat => s.heap.size ≤ q) (pt_W cA ad M ++ []) → va_S (fun q : Nat => s.heap.size ≤ q) s.heap H locs → lv_has ls 16 [] → W p l e room_1 s m #[Value.ref b] below meth c H locs 1248 59229 (lw_Z below #[Value.ref b] s) (F0 m 147 ls []) := by
    intro M H locs ls hw hP hD hS hl
    unfold wjL_law_147 at hw
    refine lv_iconst (v := 0) hx hb dL_law_147 (by decide) ?_
    exact hw.elim
  have L37 : ∀ (n37 : Nat) (x3 : Int32) (x4 : Int32) (a2 : Nat) (n2 : Nat) (f2 : Nat → Int32) (M : pt_M) (H : Heap) (locs : List Loc) (ls : Array Slot), lpL_law_37 xL xs Q n37 x3 x4 n2 f2 M → va_P D pt_cl (pt_W cA ad M ++ [(a2, .inl (cA 0, n2, .inl f2))]) H → va_D (fun q : Nat => s.heap.size ≤ q) (pt_W cA ad M ++ [(a2, .inl (cA 0, n2, .inl f2))]) → va_S (fun q : Nat => s.heap.size ≤ q) s.heap H locs → lv_has ls 16 [(0, .ref b), (1, .ref (ad 0)), (2, .ref a2), (3, .int x3), (4, .int x4)] → W p l e room_1 s m #[Value.ref b] below meth c H locs 1248 59229 (lw_Z below #[Value.ref b] s) (F0 m 37 ls []) := by
    intro n37
    induction n37 with
    | zero => intro x3 x4 a2 n2 f2 M H locs ls hw; exact hw.elim
    | succ n37 ih37 =>
      have J322 : ∀ (x3 : Int32) (x4 : Int32) (a2 : Nat) (n2 : Nat) (f2 : Nat → Int32) (M : pt_M) (H : Heap) (locs : List Loc) (ls : Array Slot), wjL_law_322 xL xs Q (lpL_law_37 xL xs Q n37) x3 x4 n2 f2 M → va_P D pt_cl (pt_W cA ad M ++ [(a2, .inl (cA 0, n2, .inl f2))]) H → va_D (fun q : Nat => s.heap.size ≤ q) (pt_W cA ad M ++ [(a2, .inl (cA 0, n2, .inl f2))]) → va_S (fun q : Nat => s.heap.size ≤ q) s.heap H locs → lv_has ls 16 [(0, .ref b), (1, .ref (ad 0)), (2, .ref a2), (3, .int x3), (4, .int x4)] → W p l e room_1 s m #[Value.ref b] below meth c H locs 1248 59229 (lw_Z below #[Value.ref b] s) (F0 m 322 ls []) := by
        intro x3 x4 a2 n2 f2 M H locs ls hw hP hD hS hl
        unfold wjL_law_322 at hw
        refine lv_aload_n hx hb dL_law_322 rfl (lv_at hl 1 rfl) ?_
        refine lv_aload_n hx hb dL_law_323 rfl (lv_at hl 2 rfl) ?_
        refine pt_calli (pt_runP (n := 2) (As := [.ref (ad 0), .ref a2]) (rest := []) F (mtL_isSound l D cA ad _ a2 n2 f2 M _ hw) pf_sblind (fun U hU hW => ⟨by rw [hU], by rw [hU]; exact pt_xpick hP [0] rfl, va_K.moved hW.alike F.2, (pt_xpickD hD [0] (by decide) rfl).weaken (fun _ _ _ _ => trivial)⟩) kw_832 kw_830 kw_25 kw_831 ⟨by decide, by decide, by decide +kernel⟩ ⟨rfl, rfl, Nat.le_of_ble_eq_true rfl, Nat.le_of_ble_eq_true rfl⟩ rfl hl.1 rfl (Nat.le_of_ble_eq_true rfl) dL_law_324 ⟨(Nat.le_trans (by omega) s_cb), (Nat.le_trans (by omega) s_sb)⟩) hS hAf (fun r_324 M_324 H_ locs hw hP1 hS _ ho => ?_)
        replace hP := pt_xback hP hD hP1 ho
        replace hD := pt_xeng (M1 := M_324) hD
        clear hP1 ho
        refine lv_if_ne (tgt := 332) hx hb dL_law_327 (by decide) (fun hc327 => ?_) (fun hc327 => ?_)
        · replace hw := hw.1 hc327
          obtain ⟨x4_332, ex4_332⟩ : ∃ y : Int32, y = x4 + 1 := ⟨_, rfl⟩
          replace hw := hw x4_332 ex4_332
          refine lv_iinc (v := x4_332) (lv' := [(4, .int x4_332), (0, .ref b), (1, .ref (ad 0)), (2, .ref a2), (3, .int x3)]) hx hb dL_law_332 hl (k := 4) rfl (by rw [ex4_332]; rfl) (by decide) rfl (fun ls hl => ?_)
          refine lv_goto (tgt := 37) hx hb dL_law_335 (by decide) ?_
          exact ih37 x3 x4_332 a2 n2 f2 M_324 _ _ _ hw (pt_xpick hP [0] rfl) (pt_xpickD hD [0] (by decide) rfl) hS (lv_sub hl [1, 2, 3, 4, 0] rfl)
        · replace hw := hw.2 hc327
          exact J330 M_324 _ _ _ hw (pt_xpick hP [] rfl) (pt_xpickD hD [] (by decide) rfl) hS (lv_sub hl [] rfl)
      have L247 : ∀ (n247 : Nat) (x3 : Int32) (x4 : Int32) (x13 : Int32) (x14 : Int32) (x15 : Int32) (a2 : Nat) (n2 : Nat) (f2 : Nat → Int32) (M : pt_M) (H : Heap) (locs : List Loc) (ls : Array Slot), lpL_law_247 xL xs Q (lpL_law_37 xL xs Q n37) n247 x3 x4 x13 x14 x15 n2 f2 M → va_P D pt_cl (pt_W cA ad M ++ [(a2, .inl (cA 0, n2, .inl f2))]) H → va_D (fun q : Nat => s.heap.size ≤ q) (pt_W cA ad M ++ [(a2, .inl (cA 0, n2, .inl f2))]) → va_S (fun q : Nat => s.heap.size ≤ q) s.heap H locs → lv_has ls 16 [(0, .ref b), (1, .ref (ad 0)), (2, .ref a2), (3, .int x3), (4, .int x4), (13, .int x13), (14, .int x14), (15, .int x15)] → W p l e room_1 s m #[Value.ref b] below meth c H locs 1248 59229 (lw_Z below #[Value.ref b] s) (F0 m 247 ls []) := by
        intro n247
        induction n247 with
        | zero => intro x3 x4 x13 x14 x15 a2 n2 f2 M H locs ls hw; exact hw.elim
        | succ n247 ih247 =>
          have J283 : ∀ (x3 : Int32) (x4 : Int32) (x13 : Int32) (x15 : Int32) (xs0 : Int32) (xs1 : Int32) (a2 : Nat) (n2 : Nat) (f2 : Nat → Int32) (M : pt_M) (H : Heap) (locs : List Loc) (ls : Array Slot), wjL_law_283 xL xs Q (lpL_law_37 xL xs Q n37) (lpL_law_247 xL xs Q (lpL_law_37 xL xs Q n37) n247) x3 x4 x13 x15 xs0 xs1 n2 f2 M → va_P D pt_cl (pt_W cA ad M ++ [(a2, .inl (cA 0, n2, .inl f2))]) H → va_D (fun q : Nat => s.heap.size ≤ q) (pt_W cA ad M ++ [(a2, .inl (cA 0, n2, .inl f2))]) → va_S (fun q : Nat => s.heap.size ≤ q) s.heap H locs → lv_has ls 16 [(0, .ref b), (1, .ref (ad 0)), (2, .ref a2), (3, .int x3), (4, .int x4), (13, .int x13), (15, .int x15)] → W p l e room_1 s m #[Value.ref b] below meth c H locs 1248 59229 (lw_Z below #[Value.ref b] s) (F0 m 283 ls [.int xs1, .int xs0]) := by
            intro x3 x4 x13 x15 xs0 xs1 a2 n2 f2 M H locs ls hw hP hD hS hl
            unfold wjL_law_283 at hw
            refine lv_iadd hx hb dL_law_283 ?_
            refine lv_topi (fun x14_284 ex14_284 => ?_)
            replace hw := hw x14_284 ex14_284
            refine lv_istore (lv' := [(14, .int x14_284), (0, .ref b), (1, .ref (ad 0)), (2, .ref a2), (3, .int x3), (4, .int x4), (13, .int x13), (15, .int x15)]) hx hb dL_law_284 hl (by decide) rfl (fun ls hl => ?_)
            obtain ⟨x15_286, ex15_286⟩ : ∃ y : Int32, y = x15 + 1 := ⟨_, rfl⟩
            replace hw := hw x15_286 ex15_286
            refine lv_iinc (v := x15_286) (lv' := [(15, .int x15_286), (14, .int x14_284), (0, .ref b), (1, .ref (ad 0)), (2, .ref a2), (3, .int x3), (4, .int x4), (13, .int x13)]) hx hb dL_law_286 hl (k := 7) rfl (by rw [ex15_286]; rfl) (by decide) rfl (fun ls hl => ?_)
            refine lv_goto (tgt := 247) hx hb dL_law_289 (by decide) ?_
            exact ih247 x3 x4 x13 x14_284 x15_286 a2 n2 f2 M _ _ _ hw (pt_xpick hP [0] rfl) (pt_xpickD hD [0] (by decide) rfl) hS (lv_sub hl [2, 3, 4, 5, 6, 7, 1, 0] rfl)
          intro x3 x4 x13 x14 x15 a2 n2 f2 M H locs ls hw hP hD hS hl
          replace hw : lbL_law_247 xL xs Q (lpL_law_37 xL xs Q n37) (lpL_law_247 xL xs Q (lpL_law_37 xL xs Q n37) n247) x3 x4 x13 x14 x15 n2 f2 M := hw
          unfold lbL_law_247 at hw
          refine lv_iload hx hb dL_law_247 (lv_at hl 7 rfl) ?_
          refine lv_aload_n hx hb dL_law_249 rfl (lv_at hl 1 rfl) ?_
          refine pt_calli (pt_runV (n := 0) (As := []) (rest := [.int x15]) F (pt_xP.mp hP).1 (pt_c7 _ pt_k0) (pt_l7 pt_k0) rfl (mtX7_transitions l D cA ad hI _ M _ hw) kw_588 kw_585 kw_26 kw_586 kw_587 ⟨by decide, by decide, by decide +kernel⟩ ⟨rfl, rfl, Nat.le_of_ble_eq_true rfl, Nat.le_of_ble_eq_true rfl⟩ rfl hl.1 rfl (Nat.le_of_ble_eq_true rfl) dL_law_250 ⟨(Nat.le_trans (by omega) s_cb), (Nat.le_trans (by omega) s_sb)⟩) hS hAf (fun r_250 M_250 H_ locs hw hP1 hS _ ho => ?_)
          replace hP := pt_xback hP hD hP1 ho
          replace hD := pt_xeng (M1 := M_250) hD
          clear hP1 ho
          refine lv_icmp_ge (tgt := 292) hx hb dL_law_253 (by decide) (fun hc253 => ?_) (fun hc253 => ?_)
          · replace hw := hw.1 hc253
            refine lv_iload hx hb dL_law_292 (lv_at hl 5 rfl) ?_
            refine lv_iload_n hx hb dL_law_294 rfl (lv_at hl 3 rfl) ?_
            refine lv_icmp_ne (tgt := 330) hx hb dL_law_295 (by decide) (fun hc295 => ?_) (fun hc295 => ?_)
            · replace hw := hw.1 hc295
              exact J330 M_250 _ _ _ hw (pt_xpick hP [] rfl) (pt_xpickD hD [] (by decide) rfl) hS (lv_sub hl [] rfl)
            · replace hw := hw.2 hc295
              refine lv_iload hx hb dL_law_298 (lv_at hl 6 rfl) ?_
              refine lv_aload_n hx hb dL_law_300 rfl (lv_at hl 1 rfl) ?_
              refine pt_calli (pt_runV (n := 0) (As := []) (rest := [.int x14]) F (pt_xP.mp hP).1 (pt_c7 _ pt_k0) (pt_l7 pt_k0) rfl (mtX7_covered l D cA ad hI _ M_250 _ hw) kw_638 kw_635 kw_26 kw_636 kw_637 ⟨by decide, by decide, by decide +kernel⟩ ⟨rfl, rfl, Nat.le_of_ble_eq_true rfl, Nat.le_of_ble_eq_true rfl⟩ rfl hl.1 rfl (Nat.le_of_ble_eq_true rfl) dL_law_301 ⟨(Nat.le_trans (by omega) s_cb), (Nat.le_trans (by omega) s_sb)⟩) hS hAf (fun r_301 M_301 H_ locs hw hP1 hS _ ho => ?_)
              replace hP := pt_xback hP hD hP1 ho
              replace hD := pt_xeng (M1 := M_301) hD
              clear hP1 ho
              refine lv_icmp_ne (tgt := 330) hx hb dL_law_304 (by decide) (fun hc304 => ?_) (fun hc304 => ?_)
              · replace hw := hw.1 hc304
                exact J330 M_301 _ _ _ hw (pt_xpick hP [] rfl) (pt_xpickD hD [] (by decide) rfl) hS (lv_sub hl [] rfl)
              · replace hw := hw.2 hc304
                refine lv_aload_n hx hb dL_law_307 rfl (lv_at hl 1 rfl) ?_
                refine pt_calli (pt_runV (n := 0) (As := []) (rest := []) F (pt_xP.mp hP).1 (pt_c7 _ pt_k0) (pt_l7 pt_k0) rfl (mtX7_isOver l D cA ad hI _ M_301 _ hw) kw_596 kw_593 kw_26 kw_594 kw_595 ⟨by decide, by decide, by decide +kernel⟩ ⟨rfl, rfl, Nat.le_of_ble_eq_true rfl, Nat.le_of_ble_eq_true rfl⟩ rfl hl.1 rfl (Nat.le_of_ble_eq_true rfl) dL_law_308 ⟨(Nat.le_trans (by omega) s_cb), (Nat.le_trans (by omega) s_sb)⟩) hS hAf (fun r_308 M_308 H_ locs hw hP1 hS _ ho => ?_)
                replace hP := pt_xback hP hD hP1 ho
                replace hD := pt_xeng (M1 := M_308) hD
                clear hP1 ho
                refine lv_if_eq (tgt := 322) hx hb dL_law_311 (by decide) (fun hc311 => ?_) (fun hc311 => ?_)
                · replace hw := hw.1 hc311
                  exact J322 x3 x4 a2 n2 f2 M_308 _ _ _ hw (pt_xpick hP [0] rfl) (pt_xpickD hD [0] (by decide) rfl) hS (lv_sub hl [0, 1, 2, 3, 4] rfl)
                · replace hw := hw.2 hc311
                  refine lv_aload_n hx hb dL_law_314 rfl (lv_at hl 1 rfl) ?_
                  refine lv_iconst (v := 0) hx hb dL_law_315 (by decide) ?_
                  refine pt_calli (pt_runV (n := 1) (As := [.int 0]) (rest := []) F (pt_xP.mp hP).1 (pt_c7 _ pt_k0) (pt_l7 pt_k0) rfl (mtX7_isEnded l D cA ad hI _ 0 M_308 _ hw) kw_601 kw_598 kw_26 kw_599 kw_600 ⟨by decide, by decide, by decide +kernel⟩ ⟨rfl, rfl, Nat.le_of_ble_eq_true rfl, Nat.le_of_ble_eq_true rfl⟩ rfl hl.1 rfl (Nat.le_of_ble_eq_true rfl) dL_law_316 ⟨(Nat.le_trans (by omega) s_cb), (Nat.le_trans (by omega) s_sb)⟩) hS hAf (fun r_316 M_316 H_ locs hw hP1 hS _ ho => ?_)
                  replace hP := pt_xback hP hD hP1 ho
                  replace hD := pt_xeng (M1 := M_316) hD
                  clear hP1 ho
                  refine lv_if_eq (tgt := 330) hx hb dL_law_319 (by decide) (fun hc319 => ?_) (fun hc319 => ?_)
                  · replace hw := hw.1 hc319
                    exact J330 M_316 _ _ _ hw (pt_xpick hP [] rfl) (pt_xpickD hD [] (by decide) rfl) hS (lv_sub hl [] rfl)
                  · replace hw := hw.2 hc319
                    exact J322 x3 x4 a2 n2 f2 M_316 _ _ _ hw (pt_xpick hP [0] rfl) (pt_xpickD hD [0] (by decide) rfl) hS (lv_sub hl [0, 1, 2, 3, 4] rfl)
          · replace hw := hw.2 hc253
            refine lv_iload hx hb dL_law_256 (lv_at hl 5 rfl) ?_
            refine lv_aload_n hx hb dL_law_258 rfl (lv_at hl 1 rfl) ?_
            refine lv_iload hx hb dL_law_259 (lv_at hl 7 rfl) ?_
            refine pt_calli (pt_runV (n := 1) (As := [.int x15]) (rest := [.int x13]) F (pt_xP.mp hP).1 (pt_c7 _ pt_k0) (pt_l7 pt_k0) rfl (mtX7_fired l D cA ad hI _ x15 M_250 _ hw) kw_630 kw_627 kw_26 kw_628 kw_629 ⟨by decide, by decide, by decide +kernel⟩ ⟨rfl, rfl, Nat.le_of_ble_eq_true rfl, Nat.le_of_ble_eq_true rfl⟩ rfl hl.1 rfl (Nat.le_of_ble_eq_true rfl) dL_law_261 ⟨(Nat.le_trans (by omega) s_cb), (Nat.le_trans (by omega) s_sb)⟩) hS hAf (fun r_261 M_261 H_ locs hw hP1 hS _ ho => ?_)
            replace hP := pt_xback hP hD hP1 ho
            replace hD := pt_xeng (M1 := M_261) hD
            clear hP1 ho
            refine lv_iadd hx hb dL_law_264 ?_
            refine lv_topi (fun x13_265 ex13_265 => ?_)
            replace hw := hw x13_265 ex13_265
            refine lv_istore (lv' := [(13, .int x13_265), (0, .ref b), (1, .ref (ad 0)), (2, .ref a2), (3, .int x3), (4, .int x4), (14, .int x14), (15, .int x15)]) hx hb dL_law_265 hl (by decide) rfl (fun ls hl => ?_)
            refine lv_iload hx hb dL_law_267 (lv_at hl 6 rfl) ?_
            refine lv_aload_n hx hb dL_law_269 rfl (lv_at hl 2 rfl) ?_
            refine lv_iload hx hb dL_law_270 (lv_at hl 7 rfl) ?_
            refine pt_calli (pt_runV (n := 1) (As := [.int x15]) (rest := [.int x14]) F (pt_xP.mp hP).1 (pt_c7 _ pt_k0) (pt_l7 pt_k0) rfl (mtX7_fired l D cA ad hI _ x15 M_261 _ hw) kw_630 kw_627 kw_26 kw_628 kw_629 ⟨by decide, by decide, by decide +kernel⟩ ⟨rfl, rfl, Nat.le_of_ble_eq_true rfl, Nat.le_of_ble_eq_true rfl⟩ rfl hl.1 rfl (Nat.le_of_ble_eq_true rfl) dL_law_272 ⟨(Nat.le_trans (by omega) s_cb), (Nat.le_trans (by omega) s_sb)⟩) hS hAf (fun r_272 M_272 H_ locs hw hP1 hS _ ho => ?_)
            replace hP := pt_xback hP hD hP1 ho
            replace hD := pt_xeng (M1 := M_272) hD
            clear hP1 ho
            refine lv_if_le (tgt := 282) hx hb dL_law_275 (by decide) (fun hc275 => ?_) (fun hc275 => ?_)
            · replace hw := hw.1 hc275
              refine lv_iconst (v := 0) hx hb dL_law_282 (by decide) ?_
              exact J283 x3 x4 x13_265 x15 x14 0 a2 n2 f2 M_272 _ _ _ hw (pt_xpick hP [0] rfl) (pt_xpickD hD [0] (by decide) rfl) hS (lv_sub hl [1, 2, 3, 4, 5, 0, 7] rfl)
            · replace hw := hw.2 hc275
              refine lv_iconst (v := 1) hx hb dL_law_278 (by decide) ?_
              refine lv_goto (tgt := 283) hx hb dL_law_279 (by decide) ?_
              exact J283 x3 x4 x13_265 x15 x14 1 a2 n2 f2 M_272 _ _ _ hw (pt_xpick hP [0] rfl) (pt_xpickD hD [0] (by decide) rfl) hS (lv_sub hl [1, 2, 3, 4, 5, 0, 7] rfl)
      have J238 : ∀ (x3 : Int32) (x4 : Int32) (a2 : Nat) (n2 : Nat) (f2 : Nat → Int32) (M : pt_M) (H : Heap) (locs : List Loc) (ls : Array Slot), wjL_law_238 xL xs Q (lpL_law_37 xL xs Q n37) x3 x4 n2 f2 M → va_P D pt_cl (pt_W cA ad M ++ [(a2, .inl (cA 0, n2, .inl f2))]) H → va_D (fun q : Nat => s.heap.size ≤ q) (pt_W cA ad M ++ [(a2, .inl (cA 0, n2, .inl f2))]) → va_S (fun q : Nat => s.heap.size ≤ q) s.heap H locs → lv_has ls 16 [(0, .ref b), (1, .ref (ad 0)), (2, .ref a2), (3, .int x3), (4, .int x4)] → W p l e room_1 s m #[Value.ref b] below meth c H locs 1248 59229 (lw_Z below #[Value.ref b] s) (F0 m 238 ls []) := by
        intro x3 x4 a2 n2 f2 M H locs ls hw hP hD hS hl
        unfold wjL_law_238 at hw
        refine lv_iconst (v := 0) hx hb dL_law_238 (by decide) ?_
        refine lv_istore (lv' := [(13, .int 0), (0, .ref b), (1, .ref (ad 0)), (2, .ref a2), (3, .int x3), (4, .int x4)]) hx hb dL_law_239 hl (by decide) rfl (fun ls hl => ?_)
        refine lv_iconst (v := 0) hx hb dL_law_241 (by decide) ?_
        refine lv_istore (lv' := [(14, .int 0), (13, .int 0), (0, .ref b), (1, .ref (ad 0)), (2, .ref a2), (3, .int x3), (4, .int x4)]) hx hb dL_law_242 hl (by decide) rfl (fun ls hl => ?_)
        refine lv_iconst (v := 0) hx hb dL_law_244 (by decide) ?_
        refine lv_istore (lv' := [(15, .int 0), (14, .int 0), (13, .int 0), (0, .ref b), (1, .ref (ad 0)), (2, .ref a2), (3, .int x3), (4, .int x4)]) hx hb dL_law_245 hl (by decide) rfl (fun ls hl => ?_)
        obtain ⟨n_, hw⟩ := hw
        exact L247 n_ x3 x4 0 0 0 a2 n2 f2 M _ _ _ hw (pt_xpick hP [0] rfl) (pt_xpickD hD [0] (by decide) rfl) hS (lv_sub hl [3, 4, 5, 6, 7, 2, 1, 0] rfl)
      have J222 : ∀ (x3 : Int32) (x4 : Int32) (x12 : Int32) (x14 : Int32) (xs0 : Int32) (xs1 : Int32) (xs2 : Int32) (a2 : Nat) (n2 : Nat) (f2 : Nat → Int32) (M : pt_M) (H : Heap) (locs : List Loc) (ls : Array Slot), wjL_law_222 xL xs Q (lpL_law_37 xL xs Q n37) x3 x4 x12 x14 xs0 xs1 xs2 n2 f2 M → va_P D pt_cl (pt_W cA ad M ++ [(a2, .inl (cA 0, n2, .inl f2))]) H → va_D (fun q : Nat => s.heap.size ≤ q) (pt_W cA ad M ++ [(a2, .inl (cA 0, n2, .inl f2))]) → va_S (fun q : Nat => s.heap.size ≤ q) s.heap H locs → lv_has ls 16 [(0, .ref b), (1, .ref (ad 0)), (2, .ref a2), (3, .int x3), (4, .int x4), (12, .int x12), (14, .int x14)] → W p l e room_1 s m #[Value.ref b] below meth c H locs 1248 59229 (lw_Z below #[Value.ref b] s) (F0 m 222 ls [.int xs2, .int xs1, .int xs0]) := by
        intro x3 x4 x12 x14 xs0 xs1 xs2 a2 n2 f2 M H locs ls hw hP hD hS hl
        unfold wjL_law_222 at hw
        refine lv_iadd hx hb dL_law_222 ?_
        refine lv_icmp_ne (tgt := 236) hx hb dL_law_223 (by decide) (fun hc223 => ?_) (fun hc223 => ?_)
        · replace hw := hw.1 hc223
          exact J236 M _ _ _ hw (pt_xpick hP [] rfl) (pt_xpickD hD [] (by decide) rfl) hS (lv_sub hl [] rfl)
        · replace hw := hw.2 hc223
          refine lv_iload hx hb dL_law_226 (lv_at hl 5 rfl) ?_
          refine lv_if_eq (tgt := 238) hx hb dL_law_228 (by decide) (fun hc228 => ?_) (fun hc228 => ?_)
          · replace hw := hw.1 hc228
            exact J238 x3 x4 a2 n2 f2 M _ _ _ hw (pt_xpick hP [0] rfl) (pt_xpickD hD [0] (by decide) rfl) hS (lv_sub hl [0, 1, 2, 3, 4] rfl)
          · replace hw := hw.2 hc228
            refine lv_iload hx hb dL_law_231 (lv_at hl 6 rfl) ?_
            refine lv_if_le (tgt := 238) hx hb dL_law_233 (by decide) (fun hc233 => ?_) (fun hc233 => ?_)
            · replace hw := hw.1 hc233
              exact J238 x3 x4 a2 n2 f2 M _ _ _ hw (pt_xpick hP [0] rfl) (pt_xpickD hD [0] (by decide) rfl) hS (lv_sub hl [0, 1, 2, 3, 4] rfl)
            · replace hw := hw.2 hc233
              exact J236 M _ _ _ hw (pt_xpick hP [] rfl) (pt_xpickD hD [] (by decide) rfl) hS (lv_sub hl [] rfl)
      have J149 : ∀ (x3 : Int32) (x4 : Int32) (x5 : Int32) (x8 : Int32) (x9 : Int32) (x10 : Int32) (x12 : Int32) (a2 : Nat) (n2 : Nat) (f2 : Nat → Int32) (M : pt_M) (H : Heap) (locs : List Loc) (ls : Array Slot), wjL_law_149 xL xs Q (lpL_law_37 xL xs Q n37) x3 x4 x5 x8 x9 x10 x12 n2 f2 M → va_P D pt_cl (pt_W cA ad M ++ [(a2, .inl (cA 0, n2, .inl f2))]) H → va_D (fun q : Nat => s.heap.size ≤ q) (pt_W cA ad M ++ [(a2, .inl (cA 0, n2, .inl f2))]) → va_S (fun q : Nat => s.heap.size ≤ q) s.heap H locs → lv_has ls 16 [(0, .ref b), (1, .ref (ad 0)), (2, .ref a2), (3, .int x3), (4, .int x4), (5, .int x5), (8, .int x8), (9, .int x9), (10, .int x10), (12, .int x12)] → W p l e room_1 s m #[Value.ref b] below meth c H locs 1248 59229 (lw_Z below #[Value.ref b] s) (F0 m 149 ls []) := by
        intro x3 x4 x5 x8 x9 x10 x12 a2 n2 f2 M H locs ls hw hP hD hS hl
        unfold wjL_law_149 at hw
        refine lv_iload hx hb dL_law_149 (lv_at hl 5 rfl) ?_
        refine lv_iconst (v := 3) hx hb dL_law_151 (by decide) ?_
        refine pt_callp (pt_runP (n := 2) (As := [.int x5, .int 3]) (rest := []) F (mtL_below l x5 3 (by decide)) (fun _ _ _ _ h => h) (fun _ _ _ => trivial) kw_751 kw_749 kw_25 kw_750 ⟨by decide, by decide, by decide +kernel⟩ ⟨rfl, rfl, Nat.le_of_ble_eq_true rfl, Nat.le_of_ble_eq_true rfl⟩ rfl hl.1 rfl (Nat.le_of_ble_eq_true rfl) dL_law_152 ⟨(Nat.le_trans (by omega) s_cb), (Nat.le_trans (by omega) s_sb)⟩) hS (fun r_152 H locs er_152 ho hS => ?_)
        replace hP := pt_xkeep hP ho
        replace hw := hw r_152 er_152
        refine lv_if_le (tgt := 188) hx hb dL_law_155 (by decide) (fun hc155 => ?_) (fun hc155 => ?_)
        · replace hw := hw.1 hc155
          refine lv_aload_n hx hb dL_law_188 rfl (lv_at hl 1 rfl) ?_
          refine pt_calli (pt_runV (n := 0) (As := []) (rest := []) F (pt_xP.mp hP).1 (pt_c7 _ pt_k0) (pt_l7 pt_k0) rfl (mtX7_clock l D cA ad hI _ M _ hw) kw_626 kw_623 kw_26 kw_624 kw_625 ⟨by decide, by decide, by decide +kernel⟩ ⟨rfl, rfl, Nat.le_of_ble_eq_true rfl, Nat.le_of_ble_eq_true rfl⟩ rfl hl.1 rfl (Nat.le_of_ble_eq_true rfl) dL_law_189 ⟨(Nat.le_trans (by omega) s_cb), (Nat.le_trans (by omega) s_sb)⟩) hS hAf (fun r_189 M_189 H_ locs hw hP1 hS _ ho => ?_)
          replace hP := pt_xback hP hD hP1 ho
          replace hD := pt_xeng (M1 := M_189) hD
          clear hP1 ho
          refine lv_istore (lv' := [(13, .int r_189), (0, .ref b), (1, .ref (ad 0)), (2, .ref a2), (3, .int x3), (4, .int x4), (5, .int x5), (8, .int x8), (9, .int x9), (10, .int x10), (12, .int x12)]) hx hb dL_law_192 hl (by decide) rfl (fun ls hl => ?_)
          refine lv_aload_n hx hb dL_law_194 rfl (lv_at hl 2 rfl) ?_
          refine lv_iconst (v := 1) hx hb dL_law_195 (by decide) ?_
          refine pt_calli (pt_runV (n := 1) (As := [.int 1]) (rest := []) F (pt_xP.mp hP).1 (pt_c7 _ pt_k0) (pt_l7 pt_k0) rfl (mtX7_tick l D cA ad hI _ 1 M_189 _ hw) kw_584 kw_581 kw_26 kw_582 kw_583 ⟨by decide, by decide, by decide +kernel⟩ ⟨rfl, rfl, Nat.le_of_ble_eq_true rfl, Nat.le_of_ble_eq_true rfl⟩ rfl hl.1 rfl (Nat.le_of_ble_eq_true rfl) dL_law_196 ⟨(Nat.le_trans (by omega) s_cb), (Nat.le_trans (by omega) s_sb)⟩) hS hAf (fun r_196 M_196 H_ locs hw hP1 hS _ ho => ?_)
          replace hP := pt_xback hP hD hP1 ho
          replace hD := pt_xeng (M1 := M_196) hD
          clear hP1 ho
          refine lv_istore (lv' := [(14, .int r_196), (13, .int r_189), (0, .ref b), (1, .ref (ad 0)), (2, .ref a2), (3, .int x3), (4, .int x4), (5, .int x5), (8, .int x8), (9, .int x9), (10, .int x10), (12, .int x12)]) hx hb dL_law_199 hl (by decide) rfl (fun ls hl => ?_)
          refine lv_iload_n hx hb dL_law_201 rfl (lv_at hl 5 rfl) ?_
          refine lv_iload hx hb dL_law_202 (lv_at hl 0 rfl) ?_
          refine lv_iadd hx hb dL_law_204 ?_
          refine lv_topi (fun x3_205 ex3_205 => ?_)
          replace hw := hw x3_205 ex3_205
          refine lv_istore_n (lv' := [(3, .int x3_205), (14, .int r_196), (13, .int r_189), (0, .ref b), (1, .ref (ad 0)), (2, .ref a2), (4, .int x4), (5, .int x5), (8, .int x8), (9, .int x9), (10, .int x10), (12, .int x12)]) hx hb dL_law_205 rfl hl (by decide) rfl (fun ls hl => ?_)
          refine lv_aload_n hx hb dL_law_206 rfl (lv_at hl 4 rfl) ?_
          refine pt_calli (pt_runV (n := 0) (As := []) (rest := []) F (pt_xP.mp hP).1 (pt_c7 _ pt_k0) (pt_l7 pt_k0) rfl (mtX7_clock l D cA ad hI _ M_196 _ hw) kw_626 kw_623 kw_26 kw_624 kw_625 ⟨by decide, by decide, by decide +kernel⟩ ⟨rfl, rfl, Nat.le_of_ble_eq_true rfl, Nat.le_of_ble_eq_true rfl⟩ rfl hl.1 rfl (Nat.le_of_ble_eq_true rfl) dL_law_207 ⟨(Nat.le_trans (by omega) s_cb), (Nat.le_trans (by omega) s_sb)⟩) hS hAf (fun r_207 M_207 H_ locs hw hP1 hS _ ho => ?_)
          replace hP := pt_xback hP hD hP1 ho
          replace hD := pt_xeng (M1 := M_207) hD
          clear hP1 ho
          refine lv_iload hx hb dL_law_210 (lv_at hl 2 rfl) ?_
          refine lv_iload hx hb dL_law_212 (lv_at hl 11 rfl) ?_
          refine lv_if_eq (tgt := 221) hx hb dL_law_214 (by decide) (fun hc214 => ?_) (fun hc214 => ?_)
          · replace hw := hw.1 hc214
            refine lv_iconst (v := 1) hx hb dL_law_221 (by decide) ?_
            exact J222 x3_205 x4 x12 r_196 r_207 r_189 1 a2 n2 f2 M_207 _ _ _ hw (pt_xpick hP [0] rfl) (pt_xpickD hD [0] (by decide) rfl) hS (lv_sub hl [3, 4, 5, 0, 6, 11, 1] rfl)
          · replace hw := hw.2 hc214
            refine lv_iconst (v := 0) hx hb dL_law_217 (by decide) ?_
            refine lv_goto (tgt := 222) hx hb dL_law_218 (by decide) ?_
            exact J222 x3_205 x4 x12 r_196 r_207 r_189 0 a2 n2 f2 M_207 _ _ _ hw (pt_xpick hP [0] rfl) (pt_xpickD hD [0] (by decide) rfl) hS (lv_sub hl [3, 4, 5, 0, 6, 11, 1] rfl)
        · replace hw := hw.2 hc155
          refine lv_aload_n hx hb dL_law_158 rfl (lv_at hl 1 rfl) ?_
          refine lv_iload hx hb dL_law_159 (lv_at hl 6 rfl) ?_
          refine pt_calli (pt_runV (n := 1) (As := [.int x8]) (rest := []) F (pt_xP.mp hP).1 (pt_c7 _ pt_k0) (pt_l7 pt_k0) rfl (mtX7_send l D cA ad hI _ x8 M _ hw) kw_555 kw_552 kw_26 kw_553 kw_554 ⟨by decide, by decide, by decide +kernel⟩ ⟨rfl, rfl, Nat.le_of_ble_eq_true rfl, Nat.le_of_ble_eq_true rfl⟩ rfl hl.1 rfl (Nat.le_of_ble_eq_true rfl) dL_law_161 ⟨(Nat.le_trans (by omega) s_cb), (Nat.le_trans (by omega) s_sb)⟩) hS hAf (fun r_161 M_161 H_ locs hw hP1 hS _ ho => ?_)
          replace hP := pt_xback hP hD hP1 ho
          replace hD := pt_xeng (M1 := M_161) hD
          clear hP1 ho
          refine lv_iload hx hb dL_law_164 (lv_at hl 7 rfl) ?_
          refine lv_icmp_ne (tgt := 178) hx hb dL_law_166 (by decide) (fun hc166 => ?_) (fun hc166 => ?_)
          · replace hw := hw.1 hc166
            exact J178 M_161 _ _ _ hw (pt_xpick hP [] rfl) (pt_xpickD hD [] (by decide) rfl) hS (lv_sub hl [] rfl)
          · replace hw := hw.2 hc166
            refine lv_aload_n hx hb dL_law_169 rfl (lv_at hl 1 rfl) ?_
            refine pt_calli (pt_runV (n := 0) (As := []) (rest := []) F (pt_xP.mp hP).1 (pt_c7 _ pt_k0) (pt_l7 pt_k0) rfl (mtX7_active l D cA ad hI _ M_161 _ hw) kw_592 kw_589 kw_26 kw_590 kw_591 ⟨by decide, by decide, by decide +kernel⟩ ⟨rfl, rfl, Nat.le_of_ble_eq_true rfl, Nat.le_of_ble_eq_true rfl⟩ rfl hl.1 rfl (Nat.le_of_ble_eq_true rfl) dL_law_170 ⟨(Nat.le_trans (by omega) s_cb), (Nat.le_trans (by omega) s_sb)⟩) hS hAf (fun r_170 M_170 H_ locs hw hP1 hS _ ho => ?_)
            replace hP := pt_xback hP hD hP1 ho
            replace hD := pt_xeng (M1 := M_170) hD
            clear hP1 ho
            refine lv_iload hx hb dL_law_173 (lv_at hl 8 rfl) ?_
            refine lv_icmp_eq (tgt := 180) hx hb dL_law_175 (by decide) (fun hc175 => ?_) (fun hc175 => ?_)
            · replace hw := hw.1 hc175
              refine lv_iload_n hx hb dL_law_180 rfl (lv_at hl 3 rfl) ?_
              refine lv_iload hx hb dL_law_181 (lv_at hl 7 rfl) ?_
              refine lv_iadd hx hb dL_law_183 ?_
              refine lv_topi (fun x3_184 ex3_184 => ?_)
              replace hw := hw x3_184 ex3_184
              refine lv_istore_n (lv' := [(3, .int x3_184), (0, .ref b), (1, .ref (ad 0)), (2, .ref a2), (4, .int x4), (5, .int x5), (8, .int x8), (9, .int x9), (10, .int x10), (12, .int x12)]) hx hb dL_law_184 rfl hl (by decide) rfl (fun ls hl => ?_)
              refine lv_goto (tgt := 238) hx hb dL_law_185 (by decide) ?_
              exact J238 x3_184 x4 a2 n2 f2 M_170 _ _ _ hw (pt_xpick hP [0] rfl) (pt_xpickD hD [0] (by decide) rfl) hS (lv_sub hl [1, 2, 3, 0, 4] rfl)
            · replace hw := hw.2 hc175
              exact J178 M_170 _ _ _ hw (pt_xpick hP [] rfl) (pt_xpickD hD [] (by decide) rfl) hS (lv_sub hl [] rfl)
      have J125 : ∀ (x3 : Int32) (x4 : Int32) (x5 : Int32) (x8 : Int32) (x9 : Int32) (x10 : Int32) (x11 : Int32) (x12 : Int32) (a2 : Nat) (n2 : Nat) (f2 : Nat → Int32) (M : pt_M) (H : Heap) (locs : List Loc) (ls : Array Slot), wjL_law_125 xL xs Q (lpL_law_37 xL xs Q n37) x3 x4 x5 x8 x9 x10 x11 x12 n2 f2 M → va_P D pt_cl (pt_W cA ad M ++ [(a2, .inl (cA 0, n2, .inl f2))]) H → va_D (fun q : Nat => s.heap.size ≤ q) (pt_W cA ad M ++ [(a2, .inl (cA 0, n2, .inl f2))]) → va_S (fun q : Nat => s.heap.size ≤ q) s.heap H locs → lv_has ls 16 [(0, .ref b), (1, .ref (ad 0)), (2, .ref a2), (3, .int x3), (4, .int x4), (5, .int x5), (8, .int x8), (9, .int x9), (10, .int x10), (11, .int x11), (12, .int x12)] → W p l e room_1 s m #[Value.ref b] below meth c H locs 1248 59229 (lw_Z below #[Value.ref b] s) (F0 m 125 ls []) := by
        intro x3 x4 x5 x8 x9 x10 x11 x12 a2 n2 f2 M H locs ls hw hP hD hS hl
        unfold wjL_law_125 at hw
        refine lv_iload hx hb dL_law_125 (lv_at hl 9 rfl) ?_
        refine lv_iload hx hb dL_law_127 (lv_at hl 6 rfl) ?_
        refine lv_ishr hx hb dL_law_129 ?_
        refine lv_iconst (v := 1) hx hb dL_law_130 (by decide) ?_
        refine lv_iand hx hb dL_law_131 ?_
        refine lv_if_ne (tgt := 149) hx hb dL_law_132 (by decide) (fun hc132 => ?_) (fun hc132 => ?_)
        · replace hw := hw.1 hc132
          exact J149 x3 x4 x5 x8 x9 x10 x12 a2 n2 f2 M _ _ _ hw (pt_xpick hP [0] rfl) (pt_xpickD hD [0] (by decide) rfl) hS (lv_sub hl [0, 1, 2, 3, 4, 5, 6, 7, 8, 10] rfl)
        · replace hw := hw.2 hc132
          refine lv_aload_n hx hb dL_law_135 rfl (lv_at hl 1 rfl) ?_
          refine pt_calli (pt_runV (n := 0) (As := []) (rest := []) F (pt_xP.mp hP).1 (pt_c7 _ pt_k0) (pt_l7 pt_k0) rfl (mtX7_restless l D cA ad hI _ M _ hw) kw_642 kw_639 kw_26 kw_640 kw_641 ⟨by decide, by decide, by decide +kernel⟩ ⟨rfl, rfl, Nat.le_of_ble_eq_true rfl, Nat.le_of_ble_eq_true rfl⟩ rfl hl.1 rfl (Nat.le_of_ble_eq_true rfl) dL_law_136 ⟨(Nat.le_trans (by omega) s_cb), (Nat.le_trans (by omega) s_sb)⟩) hS hAf (fun r_136 M_136 H_ locs hw hP1 hS _ ho => ?_)
          replace hP := pt_xback hP hD hP1 ho
          replace hD := pt_xeng (M1 := M_136) hD
          clear hP1 ho
          refine lv_if_ne (tgt := 149) hx hb dL_law_139 (by decide) (fun hc139 => ?_) (fun hc139 => ?_)
          · replace hw := hw.1 hc139
            exact J149 x3 x4 x5 x8 x9 x10 x12 a2 n2 f2 M_136 _ _ _ hw (pt_xpick hP [0] rfl) (pt_xpickD hD [0] (by decide) rfl) hS (lv_sub hl [0, 1, 2, 3, 4, 5, 6, 7, 8, 10] rfl)
          · replace hw := hw.2 hc139
            refine lv_iload hx hb dL_law_142 (lv_at hl 7 rfl) ?_
            refine lv_if_eq (tgt := 149) hx hb dL_law_144 (by decide) (fun hc144 => ?_) (fun hc144 => ?_)
            · replace hw := hw.1 hc144
              exact J149 x3 x4 x5 x8 x9 x10 x12 a2 n2 f2 M_136 _ _ _ hw (pt_xpick hP [0] rfl) (pt_xpickD hD [0] (by decide) rfl) hS (lv_sub hl [0, 1, 2, 3, 4, 5, 6, 7, 8, 10] rfl)
            · replace hw := hw.2 hc144
              exact J147 M_136 _ _ _ hw (pt_xpick hP [] rfl) (pt_xpickD hD [] (by decide) rfl) hS (lv_sub hl [] rfl)
      intro x3 x4 a2 n2 f2 M H locs ls hw hP hD hS hl
      replace hw : lbL_law_37 xL xs Q (lpL_law_37 xL xs Q n37) x3 x4 n2 f2 M := hw
      unfold lbL_law_37 at hw
      refine lv_iload hx hb dL_law_37 (lv_at hl 4 rfl) ?_
      refine lv_bipush (v := 16) hx hb dL_law_39 (by decide) ?_
      refine lv_icmp_ge (tgt := 338) hx hb dL_law_41 (by decide) (fun hc41 => ?_) (fun hc41 => ?_)
      · replace hw := hw.1 hc41
        refine lv_aload_n hx hb dL_law_338 rfl (lv_at hl 0 rfl) ?_
        refine lv_bipush (v := 15) hx hb dL_law_339 (by decide) ?_
        refine pt_callp (pt_runP (n := 2) (As := [.ref b, .int 15]) (rest := []) F (mtL_cell l b xL xs 15 (by decide)) pf_cblind (fun U hU hW => ⟨by rw [hU]; exact va_X.moved hW.alike (hXH _ _ hS), by rw [hU]; exact Nat.lt_of_lt_of_le hbl hS.1⟩) kw_755 kw_753 kw_25 kw_754 ⟨by decide, by decide, by decide +kernel⟩ ⟨rfl, rfl, Nat.le_of_ble_eq_true rfl, Nat.le_of_ble_eq_true rfl⟩ rfl hl.1 rfl (Nat.le_of_ble_eq_true rfl) dL_law_341 ⟨(Nat.le_trans (by omega) s_cb), (Nat.le_trans (by omega) s_sb)⟩) hS (fun r_341 H locs er_341 ho hS => ?_)
        replace hP := pt_xkeep hP ho
        replace hw := hw r_341 er_341
        refine lv_aload_n hx hb dL_law_344 rfl (lv_at hl 2 rfl) ?_
        refine pt_xlen F hP 0 rfl dL_law_345 ?_
        have hz346 := hw.1
        replace hw := hw.2
        refine pt_callp (pt_runP (n := 2) (As := [.int r_341, .int (Int32.ofNat n2)]) (rest := []) F (mtL_below l r_341 (Int32.ofNat n2) hz346) (fun _ _ _ _ h => h) (fun _ _ _ => trivial) kw_751 kw_749 kw_25 kw_750 ⟨by decide, by decide, by decide +kernel⟩ ⟨rfl, rfl, Nat.le_of_ble_eq_true rfl, Nat.le_of_ble_eq_true rfl⟩ rfl hl.1 rfl (Nat.le_of_ble_eq_true rfl) dL_law_346 ⟨(Nat.le_trans (by omega) s_cb), (Nat.le_trans (by omega) s_sb)⟩) hS (fun r_346 H locs er_346 ho hS => ?_)
        replace hP := pt_xkeep hP ho
        replace hw := hw r_346 er_346
        refine lv_istore (lv' := [(4, .int r_346), (0, .ref b), (1, .ref (ad 0)), (2, .ref a2), (3, .int x3)]) hx hb dL_law_349 hl (by decide) rfl (fun ls hl => ?_)
        refine lv_aload_n hx hb dL_law_351 rfl (lv_at hl 2 rfl) ?_
        refine pt_calli (pt_runV (n := 0) (As := []) (rest := []) F (pt_xP.mp hP).1 (pt_c7 _ pt_k0) (pt_l7 pt_k0) rfl (mtX7_active l D cA ad hI _ M _ hw) kw_592 kw_589 kw_26 kw_590 kw_591 ⟨by decide, by decide, by decide +kernel⟩ ⟨rfl, rfl, Nat.le_of_ble_eq_true rfl, Nat.le_of_ble_eq_true rfl⟩ rfl hl.1 rfl (Nat.le_of_ble_eq_true rfl) dL_law_352 ⟨(Nat.le_trans (by omega) s_cb), (Nat.le_trans (by omega) s_sb)⟩) hS hAf (fun r_352 M_352 H_ locs hw hP1 hS _ ho => ?_)
        replace hP := pt_xback hP hD hP1 ho
        replace hD := pt_xeng (M1 := M_352) hD
        clear hP1 ho
        refine lv_istore (lv' := [(5, .int r_352), (4, .int r_346), (0, .ref b), (1, .ref (ad 0)), (2, .ref a2), (3, .int x3)]) hx hb dL_law_355 hl (by decide) rfl (fun ls hl => ?_)
        refine lv_aload_n hx hb dL_law_357 rfl (lv_at hl 3 rfl) ?_
        refine lv_iload hx hb dL_law_358 (lv_at hl 1 rfl) ?_
        refine lv_iconst (v := 2) hx hb dL_law_360 (by decide) ?_
        refine pt_calli (pt_runV (n := 2) (As := [.int r_346, .int 2]) (rest := []) F (pt_xP.mp hP).1 (pt_c7 _ pt_k0) (pt_l7 pt_k0) rfl (mtX7_rowTo l D cA ad hI _ r_346 2 M_352 _ hw) kw_666 kw_663 kw_26 kw_664 kw_665 ⟨by decide, by decide, by decide +kernel⟩ ⟨rfl, rfl, Nat.le_of_ble_eq_true rfl, Nat.le_of_ble_eq_true rfl⟩ rfl hl.1 rfl (Nat.le_of_ble_eq_true rfl) dL_law_361 ⟨(Nat.le_trans (by omega) s_cb), (Nat.le_trans (by omega) s_sb)⟩) hS hAf (fun r_361 M_361 H_ locs hw hP1 hS _ ho => ?_)
        replace hP := pt_xback hP hD hP1 ho
        replace hD := pt_xeng (M1 := M_361) hD
        clear hP1 ho
        refine lv_istore (lv' := [(6, .int r_361), (5, .int r_352), (4, .int r_346), (0, .ref b), (1, .ref (ad 0)), (2, .ref a2), (3, .int x3)]) hx hb dL_law_364 hl (by decide) rfl (fun ls hl => ?_)
        refine lv_aload_n hx hb dL_law_366 rfl (lv_at hl 4 rfl) ?_
        refine pt_calli (pt_runV (n := 0) (As := []) (rest := []) F (pt_xP.mp hP).1 (pt_c7 _ pt_k0) (pt_l7 pt_k0) rfl (mtX7_active l D cA ad hI _ M_361 _ hw) kw_592 kw_589 kw_26 kw_590 kw_591 ⟨by decide, by decide, by decide +kernel⟩ ⟨rfl, rfl, Nat.le_of_ble_eq_true rfl, Nat.le_of_ble_eq_true rfl⟩ rfl hl.1 rfl (Nat.le_of_ble_eq_true rfl) dL_law_367 ⟨(Nat.le_trans (by omega) s_cb), (Nat.le_trans (by omega) s_sb)⟩) hS hAf (fun r_367 M_367 H_ locs hw hP1 hS _ ho => ?_)
        replace hP := pt_xback hP hD hP1 ho
        replace hD := pt_xeng (M1 := M_367) hD
        clear hP1 ho
        refine lv_iload hx hb dL_law_370 (lv_at hl 1 rfl) ?_
        refine lv_icmp_ne (tgt := 424) hx hb dL_law_372 (by decide) (fun hc372 => ?_) (fun hc372 => ?_)
        · replace hw := hw.1 hc372
          exact J424 M_367 _ _ _ hw (pt_xpick hP [] rfl) (pt_xpickD hD [] (by decide) rfl) hS (lv_sub hl [] rfl)
        · replace hw := hw.2 hc372
          refine lv_iload hx hb dL_law_375 (lv_at hl 0 rfl) ?_
          refine lv_if_ne (tgt := 384) hx hb dL_law_377 (by decide) (fun hc377 => ?_) (fun hc377 => ?_)
          · replace hw := hw.1 hc377
            refine lv_iconst (v := 0) hx hb dL_law_384 (by decide) ?_
            exact J385 r_346 r_352 r_361 0 a2 n2 f2 M_367 _ _ _ hw (pt_xpick hP [0] rfl) (pt_xpickD hD [0] (by decide) rfl) hS (lv_sub hl [4, 5, 2, 1, 0] rfl)
          · replace hw := hw.2 hc377
            refine lv_iconst (v := 1) hx hb dL_law_380 (by decide) ?_
            refine lv_goto (tgt := 385) hx hb dL_law_381 (by decide) ?_
            exact J385 r_346 r_352 r_361 1 a2 n2 f2 M_367 _ _ _ hw (pt_xpick hP [0] rfl) (pt_xpickD hD [0] (by decide) rfl) hS (lv_sub hl [4, 5, 2, 1, 0] rfl)
      · replace hw := hw.2 hc41
        refine lv_aload_n hx hb dL_law_44 rfl (lv_at hl 0 rfl) ?_
        refine lv_iload hx hb dL_law_45 (lv_at hl 4 rfl) ?_
        have hz47 := hw.1
        replace hw := hw.2
        refine pt_callp (pt_runP (n := 2) (As := [.ref b, .int x4]) (rest := []) F (mtL_cell l b xL xs x4 hz47) pf_cblind (fun U hU hW => ⟨by rw [hU]; exact va_X.moved hW.alike (hXH _ _ hS), by rw [hU]; exact Nat.lt_of_lt_of_le hbl hS.1⟩) kw_755 kw_753 kw_25 kw_754 ⟨by decide, by decide, by decide +kernel⟩ ⟨rfl, rfl, Nat.le_of_ble_eq_true rfl, Nat.le_of_ble_eq_true rfl⟩ rfl hl.1 rfl (Nat.le_of_ble_eq_true rfl) dL_law_47 ⟨(Nat.le_trans (by omega) s_cb), (Nat.le_trans (by omega) s_sb)⟩) hS (fun r_47 H locs er_47 ho hS => ?_)
        replace hP := pt_xkeep hP ho
        replace hw := hw r_47 er_47
        refine lv_istore (lv' := [(5, .int r_47), (0, .ref b), (1, .ref (ad 0)), (2, .ref a2), (3, .int x3), (4, .int x4)]) hx hb dL_law_50 hl (by decide) rfl (fun ls hl => ?_)
        refine lv_aload_n hx hb dL_law_52 rfl (lv_at hl 2 rfl) ?_
        refine pt_calll (pt_runV (n := 0) (As := []) (rest := []) F (pt_xP.mp hP).1 (pt_c7 _ pt_k0) (pt_l7 pt_k0) rfl (mtX7_digest l D cA ad hI _ M _ hw) kw_700 kw_697 kw_26 kw_698 kw_699 ⟨by decide, by decide, by decide +kernel⟩ ⟨rfl, rfl, Nat.le_of_ble_eq_true rfl, Nat.le_of_ble_eq_true rfl⟩ rfl hl.1 rfl (Nat.le_of_ble_eq_true rfl) dL_law_53 ⟨(Nat.le_trans (by omega) s_cb), (Nat.le_trans (by omega) s_sb)⟩) hS hAf (fun r_53 M_53 H_ locs hw hP1 hS _ ho => ?_)
        replace hP := pt_xback hP hD hP1 ho
        replace hD := pt_xeng (M1 := M_53) hD
        clear hP1 ho
        refine lv_lstore (lv' := [(6, .long r_53), (5, .int r_47), (0, .ref b), (1, .ref (ad 0)), (2, .ref a2), (3, .int x3), (4, .int x4)]) hx hb dL_law_56 hl (by decide) rfl (fun ls hl => ?_)
        refine lv_iload hx hb dL_law_58 (lv_at hl 1 rfl) ?_
        refine lv_iconst (v := 1) hx hb dL_law_60 (by decide) ?_
        refine lv_ishr hx hb dL_law_61 ?_
        refine lv_iconst (v := 5) hx hb dL_law_62 (by decide) ?_
        refine pt_callp (pt_runP (n := 2) (As := [.int (r_47 >>> (1 &&& 31)), .int 5]) (rest := []) F (mtL_below l (r_47 >>> (1 &&& 31)) 5 (by decide)) (fun _ _ _ _ h => h) (fun _ _ _ => trivial) kw_751 kw_749 kw_25 kw_750 ⟨by decide, by decide, by decide +kernel⟩ ⟨rfl, rfl, Nat.le_of_ble_eq_true rfl, Nat.le_of_ble_eq_true rfl⟩ rfl hl.1 rfl (Nat.le_of_ble_eq_true rfl) dL_law_63 ⟨(Nat.le_trans (by omega) s_cb), (Nat.le_trans (by omega) s_sb)⟩) hS (fun r_63 H locs er_63 ho hS => ?_)
        replace hP := pt_xkeep hP ho
        replace hw := hw r_63 er_63
        refine lv_istore (lv' := [(8, .int r_63), (6, .long r_53), (5, .int r_47), (0, .ref b), (1, .ref (ad 0)), (2, .ref a2), (3, .int x3), (4, .int x4)]) hx hb dL_law_66 hl (by decide) rfl (fun ls hl => ?_)
        refine lv_aload_n hx hb dL_law_68 rfl (lv_at hl 4 rfl) ?_
        refine lv_iload hx hb dL_law_69 (lv_at hl 0 rfl) ?_
        refine pt_calli (pt_runV (n := 1) (As := [.int r_63]) (rest := []) F (pt_xP.mp hP).1 (pt_c7 _ pt_k0) (pt_l7 pt_k0) rfl (mtX7_wouldFire l D cA ad hI _ r_63 M_53 _ hw) kw_646 kw_643 kw_26 kw_644 kw_645 ⟨by decide, by decide, by decide +kernel⟩ ⟨rfl, rfl, Nat.le_of_ble_eq_true rfl, Nat.le_of_ble_eq_true rfl⟩ rfl hl.1 rfl (Nat.le_of_ble_eq_true rfl) dL_law_71 ⟨(Nat.le_trans (by omega) s_cb), (Nat.le_trans (by omega) s_sb)⟩) hS hAf (fun r_71 M_71 H_ locs hw hP1 hS _ ho => ?_)
        replace hP := pt_xback hP hD hP1 ho
        replace hD := pt_xeng (M1 := M_71) hD
        clear hP1 ho
        refine lv_istore (lv' := [(9, .int r_71), (8, .int r_63), (6, .long r_53), (5, .int r_47), (0, .ref b), (1, .ref (ad 0)), (2, .ref a2), (3, .int x3), (4, .int x4)]) hx hb dL_law_74 hl (by decide) rfl (fun ls hl => ?_)
        refine lv_aload_n hx hb dL_law_76 rfl (lv_at hl 5 rfl) ?_
        refine lv_iload hx hb dL_law_77 (lv_at hl 1 rfl) ?_
        refine pt_calli (pt_runV (n := 1) (As := [.int r_63]) (rest := []) F (pt_xP.mp hP).1 (pt_c7 _ pt_k0) (pt_l7 pt_k0) rfl (mtX7_wouldBe l D cA ad hI _ r_63 M_71 _ hw) kw_657 kw_654 kw_26 kw_655 kw_656 ⟨by decide, by decide, by decide +kernel⟩ ⟨rfl, rfl, Nat.le_of_ble_eq_true rfl, Nat.le_of_ble_eq_true rfl⟩ rfl hl.1 rfl (Nat.le_of_ble_eq_true rfl) dL_law_79 ⟨(Nat.le_trans (by omega) s_cb), (Nat.le_trans (by omega) s_sb)⟩) hS hAf (fun r_79 M_79 H_ locs hw hP1 hS _ ho => ?_)
        replace hP := pt_xback hP hD hP1 ho
        replace hD := pt_xeng (M1 := M_79) hD
        clear hP1 ho
        refine lv_istore (lv' := [(10, .int r_79), (9, .int r_71), (8, .int r_63), (6, .long r_53), (5, .int r_47), (0, .ref b), (1, .ref (ad 0)), (2, .ref a2), (3, .int x3), (4, .int x4)]) hx hb dL_law_82 hl (by decide) rfl (fun ls hl => ?_)
        refine lv_aload_n hx hb dL_law_84 rfl (lv_at hl 6 rfl) ?_
        refine pt_calli (pt_runV (n := 0) (As := []) (rest := []) F (pt_xP.mp hP).1 (pt_c7 _ pt_k0) (pt_l7 pt_k0) rfl (mtX7_open l D cA ad hI _ M_79 _ hw) kw_661 kw_658 kw_26 kw_659 kw_660 ⟨by decide, by decide, by decide +kernel⟩ ⟨rfl, rfl, Nat.le_of_ble_eq_true rfl, Nat.le_of_ble_eq_true rfl⟩ rfl hl.1 rfl (Nat.le_of_ble_eq_true rfl) dL_law_85 ⟨(Nat.le_trans (by omega) s_cb), (Nat.le_trans (by omega) s_sb)⟩) hS hAf (fun r_85 M_85 H_ locs hw hP1 hS _ ho => ?_)
        replace hP := pt_xback hP hD hP1 ho
        replace hD := pt_xeng (M1 := M_85) hD
        clear hP1 ho
        refine lv_istore (lv' := [(11, .int r_85), (10, .int r_79), (9, .int r_71), (8, .int r_63), (6, .long r_53), (5, .int r_47), (0, .ref b), (1, .ref (ad 0)), (2, .ref a2), (3, .int x3), (4, .int x4)]) hx hb dL_law_88 hl (by decide) rfl (fun ls hl => ?_)
        refine lv_aload_n hx hb dL_law_90 rfl (lv_at hl 7 rfl) ?_
        refine pt_calli (pt_runV (n := 0) (As := []) (rest := []) F (pt_xP.mp hP).1 (pt_c7 _ pt_k0) (pt_l7 pt_k0) rfl (mtX7_isOver l D cA ad hI _ M_85 _ hw) kw_596 kw_593 kw_26 kw_594 kw_595 ⟨by decide, by decide, by decide +kernel⟩ ⟨rfl, rfl, Nat.le_of_ble_eq_true rfl, Nat.le_of_ble_eq_true rfl⟩ rfl hl.1 rfl (Nat.le_of_ble_eq_true rfl) dL_law_91 ⟨(Nat.le_trans (by omega) s_cb), (Nat.le_trans (by omega) s_sb)⟩) hS hAf (fun r_91 M_91 H_ locs hw hP1 hS _ ho => ?_)
        replace hP := pt_xback hP hD hP1 ho
        replace hD := pt_xeng (M1 := M_91) hD
        clear hP1 ho
        refine lv_istore (lv' := [(12, .int r_91), (11, .int r_85), (10, .int r_79), (9, .int r_71), (8, .int r_63), (6, .long r_53), (5, .int r_47), (0, .ref b), (1, .ref (ad 0)), (2, .ref a2), (3, .int x3), (4, .int x4)]) hx hb dL_law_94 hl (by decide) rfl (fun ls hl => ?_)
        refine lv_aload_n hx hb dL_law_96 rfl (lv_at hl 8 rfl) ?_
        refine pt_calll (pt_runV (n := 0) (As := []) (rest := []) F (pt_xP.mp hP).1 (pt_c7 _ pt_k0) (pt_l7 pt_k0) rfl (mtX7_digest l D cA ad hI _ M_91 _ hw) kw_700 kw_697 kw_26 kw_698 kw_699 ⟨by decide, by decide, by decide +kernel⟩ ⟨rfl, rfl, Nat.le_of_ble_eq_true rfl, Nat.le_of_ble_eq_true rfl⟩ rfl hl.1 rfl (Nat.le_of_ble_eq_true rfl) dL_law_97 ⟨(Nat.le_trans (by omega) s_cb), (Nat.le_trans (by omega) s_sb)⟩) hS hAf (fun r_97 M_97 H_ locs hw hP1 hS _ ho => ?_)
        replace hP := pt_xback hP hD hP1 ho
        replace hD := pt_xeng (M1 := M_97) hD
        clear hP1 ho
        refine lv_lload hx hb dL_law_100 (lv_at hl 5 rfl) ?_
        refine W.lcmp hx hb dL_law_102 ?_
        refine lv_topi (fun r_102 er_102 => ?_)
        replace hw := hw r_102 er_102
        refine lv_if_ne (tgt := 147) hx hb dL_law_103 (by decide) (fun hc103 => ?_) (fun hc103 => ?_)
        · replace hw := hw.1 hc103
          exact J147 M_97 _ _ _ hw (pt_xpick hP [] rfl) (pt_xpickD hD [] (by decide) rfl) hS (lv_sub hl [] rfl)
        · replace hw := hw.2 hc103
          refine lv_iload hx hb dL_law_106 (lv_at hl 0 rfl) ?_
          refine lv_if_eq (tgt := 125) hx hb dL_law_108 (by decide) (fun hc108 => ?_) (fun hc108 => ?_)
          · replace hw := hw.1 hc108
            exact J125 x3 x4 r_47 r_63 r_71 r_79 r_85 r_91 a2 n2 f2 M_97 _ _ _ hw (pt_xpick hP [0] rfl) (pt_xpickD hD [0] (by decide) rfl) hS (lv_sub hl [7, 8, 9, 10, 11, 6, 4, 3, 2, 1, 0] rfl)
          · replace hw := hw.2 hc108
            refine lv_iload hx hb dL_law_111 (lv_at hl 3 rfl) ?_
            refine lv_if_ne (tgt := 147) hx hb dL_law_113 (by decide) (fun hc113 => ?_) (fun hc113 => ?_)
            · replace hw := hw.1 hc113
              exact J147 M_97 _ _ _ hw (pt_xpick hP [] rfl) (pt_xpickD hD [] (by decide) rfl) hS (lv_sub hl [] rfl)
            · replace hw := hw.2 hc113
              refine lv_iload hx hb dL_law_116 (lv_at hl 2 rfl) ?_
              refine lv_aload_n hx hb dL_law_118 rfl (lv_at hl 8 rfl) ?_
              refine pt_calli (pt_runV (n := 0) (As := []) (rest := [.int r_79]) F (pt_xP.mp hP).1 (pt_c7 _ pt_k0) (pt_l7 pt_k0) rfl (mtX7_active l D cA ad hI _ M_97 _ hw) kw_592 kw_589 kw_26 kw_590 kw_591 ⟨by decide, by decide, by decide +kernel⟩ ⟨rfl, rfl, Nat.le_of_ble_eq_true rfl, Nat.le_of_ble_eq_true rfl⟩ rfl hl.1 rfl (Nat.le_of_ble_eq_true rfl) dL_law_119 ⟨(Nat.le_trans (by omega) s_cb), (Nat.le_trans (by omega) s_sb)⟩) hS hAf (fun r_119 M_119 H_ locs hw hP1 hS _ ho => ?_)
              replace hP := pt_xback hP hD hP1 ho
              replace hD := pt_xeng (M1 := M_119) hD
              clear hP1 ho
              refine lv_icmp_ne (tgt := 147) hx hb dL_law_122 (by decide) (fun hc122 => ?_) (fun hc122 => ?_)
              · replace hw := hw.1 hc122
                exact J147 M_119 _ _ _ hw (pt_xpick hP [] rfl) (pt_xpickD hD [] (by decide) rfl) hS (lv_sub hl [] rfl)
              · replace hw := hw.2 hc122
                exact J125 x3 x4 r_47 r_63 r_71 r_79 r_85 r_91 a2 n2 f2 M_119 _ _ _ hw (pt_xpick hP [0] rfl) (pt_xpickD hD [0] (by decide) rfl) hS (lv_sub hl [7, 8, 9, 10, 11, 6, 4, 3, 2, 1, 0] rfl)
  unfold wpL_law at hw
  refine lv_astore_n (lv' := [(1, .ref (ad 0)), (0, .ref b)]) hx hb dL_law_7 rfl hl (by decide) rfl (fun ls hl => ?_)
  refine lv_aload_n hx hb dL_law_8 rfl (lv_at hl 0 rfl) ?_
  refine lv_aload_n hx hb dL_law_9 rfl (lv_at hl 1 rfl) ?_
  refine lv_iconst (v := 4) hx hb dL_law_10 (by decide) ?_
  refine lv_aload_n hx hb dL_law_11 rfl (lv_at hl 1 rfl) ?_
  refine lv_iconst (v := 0) hx hb dL_law_12 (by decide) ?_
  refine pt_callp (pt_runP (n := 2) (As := [.ref b, .int 0]) (rest := [.int 4, .ref b, .ref (ad 0)]) F (mtL_cell l b xL xs 0 (by decide)) pf_cblind (fun U hU hW => ⟨by rw [hU]; exact va_X.moved hW.alike (hXH _ _ hS), by rw [hU]; exact Nat.lt_of_lt_of_le hbl hS.1⟩) kw_755 kw_753 kw_25 kw_754 ⟨by decide, by decide, by decide +kernel⟩ ⟨rfl, rfl, Nat.le_of_ble_eq_true rfl, Nat.le_of_ble_eq_true rfl⟩ rfl hl.1 rfl (Nat.le_of_ble_eq_true rfl) dL_law_13 ⟨(Nat.le_trans (by omega) s_cb), (Nat.le_trans (by omega) s_sb)⟩) hS (fun r_13 H locs er_13 ho hS => ?_)
  replace hP := pt_xkeep hP ho
  replace hw := hw r_13 er_13
  refine lv_bipush (v := 12) hx hb dL_law_16 (by decide) ?_
  refine pt_callp (pt_runP (n := 2) (As := [.int r_13, .int 12]) (rest := [.int 4, .ref b, .ref (ad 0)]) F (mtL_below l r_13 12 (by decide)) (fun _ _ _ _ h => h) (fun _ _ _ => trivial) kw_751 kw_749 kw_25 kw_750 ⟨by decide, by decide, by decide +kernel⟩ ⟨rfl, rfl, Nat.le_of_ble_eq_true rfl, Nat.le_of_ble_eq_true rfl⟩ rfl hl.1 rfl (Nat.le_of_ble_eq_true rfl) dL_law_18 ⟨(Nat.le_trans (by omega) s_cb), (Nat.le_trans (by omega) s_sb)⟩) hS (fun r_18 H locs er_18 ho hS => ?_)
  replace hP := pt_xkeep hP ho
  replace hw := hw r_18 er_18
  refine lv_iadd hx hb dL_law_21 ?_
  refine lv_iconst (v := 5) hx hb dL_law_22 (by decide) ?_
  refine lv_iconst (v := 4) hx hb dL_law_23 (by decide) ?_
  refine lv_iconst (v := 4) hx hb dL_law_24 (by decide) ?_
  refine pt_callb (pt_runP (n := 6) (As := [.ref (ad 0), .ref b, .int (4 + r_18), .int 5, .int 4, .int 4]) (rest := []) F (mtL_build l D cA ad hI _ b hbad xL xs (4 + r_18) 5 4 4 pt_M0 _ hw) pf_bblind (fun U hU hW => ⟨⟨by rw [hU], by rw [hU]; exact (pt_xP.mp hP).1, va_K.moved hW.alike F.2⟩, by rw [hU]; exact va_X.moved hW.alike (hXH _ _ hS), by rw [hU]; exact Nat.lt_of_lt_of_le hbl hS.1, pt_AA.moved hW.alike hAA, pt_AO.moved hW.alike hAO⟩) kw_759 kw_757 kw_25 kw_758 ⟨by decide, by decide, by decide +kernel⟩ ⟨rfl, rfl, Nat.le_of_ble_eq_true rfl, Nat.le_of_ble_eq_true rfl⟩ rfl hl.1 rfl (Nat.le_of_ble_eq_true rfl) dL_law_25 ⟨Nat.le_of_ble_eq_true rfl, Nat.le_of_ble_eq_true rfl⟩) hP hD hS hAf (fun f_25 M_25 q_25 H locs hw hP hD hS => ?_)
  refine W.widen (k := 1248) (n := 59229) (by omega) (by omega) ?_
  refine lv_astore_n (lv' := [(2, .ref q_25), (1, .ref (ad 0)), (0, .ref b)]) hx hb dL_law_28 rfl hl (by decide) rfl (fun ls hl => ?_)
  refine lv_aload_n hx hb dL_law_29 rfl (lv_at hl 1 rfl) ?_
  refine pt_calli (pt_runV (n := 0) (As := []) (rest := []) F (pt_xP.mp hP).1 (pt_c7 _ pt_k0) (pt_l7 pt_k0) rfl (mtX7_start l D cA ad hI _ M_25 _ hw) kw_349 kw_346 kw_26 kw_347 kw_348 ⟨by decide, by decide, by decide +kernel⟩ ⟨rfl, rfl, Nat.le_of_ble_eq_true rfl, Nat.le_of_ble_eq_true rfl⟩ rfl hl.1 rfl (Nat.le_of_ble_eq_true rfl) dL_law_30 ⟨(Nat.le_trans (by omega) s_cb), (Nat.le_trans (by omega) s_sb)⟩) hS hAf (fun r_30 M_30 H_ locs hw hP1 hS _ ho => ?_)
  replace hP := pt_xback hP hD hP1 ho
  replace hD := pt_xeng (M1 := M_30) hD
  clear hP1 ho
  refine lv_istore_n (lv' := [(3, .int r_30), (2, .ref q_25), (1, .ref (ad 0)), (0, .ref b)]) hx hb dL_law_33 rfl hl (by decide) rfl (fun ls hl => ?_)
  refine lv_iconst (v := 0) hx hb dL_law_34 (by decide) ?_
  refine lv_istore (lv' := [(4, .int 0), (3, .int r_30), (2, .ref q_25), (1, .ref (ad 0)), (0, .ref b)]) hx hb dL_law_35 hl (by decide) rfl (fun ls hl => ?_)
  obtain ⟨n_, hw⟩ := hw
  exact L37 n_ r_30 0 q_25 (Int32.toNatClampNeg (4 + r_18)) f_25 M_30 _ _ _ hw (pt_xpick hP [0] rfl) (pt_xpickD hD [0] (by decide) rfl) hS (lv_sub hl [4, 3, 2, 1, 0] rfl)
