/-! BEHIND THE CONSTRUCTOR: its cells are the engine's objects, holding pt_M0 -/
def pt_ag (k : Nat) : Bool := decide (k = 127) || decide (k = 135) || (decide (147 ≤ k) && decide ((k - 147) % 4 = 1))
def pt_M0 : pt_M := fun k => if k = 1 then (fun j => if j = 3 then 1 else if j = 5 then 1 else 0) else if pt_kd k = 5 then (fun j => if j = 3 then -1 else if j = 4 then -1 else 0) else if pt_kd k = 6 then (fun j => if j = 4 then -1 else if j = 5 then -1 else 0) else if pt_ag k = true then (fun _ => -1) else (fun _ => 0)
def pk_ad (a : Nat) (u : pkU) : Nat → Nat := match u with
  | ((c, qs, qt, qc, fS, fT), (p, ps, px, py, pz, pf, pq, pt), (t, ts, tx, ty, tz, tf, tq, tt), (o, k1, k2, k3, k4, k5, fQ)) => fun k =>
    if k < 5 then ([a, c, qs, qt, qc] : List Nat).getD k 0 else if k < 65 then fS ((k - 5) / 3) ((k - 5) % 3) else if k < 125 then fT ((k - 65) / 2) ((k - 65) % 2) else if k < 147 then ([p, ps, px, py, pz, pf, pq, pt, t, ts, tx, ty, tz, tf, tq, tt, o, k1, k2, k3, k4, k5] : List Nat).getD (k - 125) 0 else fQ ((k - 147) / 4) ((k - 147) % 4)
theorem pk_blk {α : Type} (g : Nat → α) (b L : Nat) : ∀ n, (List.range' b (L * n)).map g = (List.range n).flatMap (fun s => (List.range' (b + L * s) L).map g)
  | 0 => rfl
  | n + 1 => by
    rw [List.range_succ, List.flatMap_append, ← pk_blk g b L n, Nat.mul_succ, ← List.range'_append_1, List.map_append]
    simp
theorem pk_fm2 {f g : Nat → va_W} {n : Nat} (h : ∀ i, i < n → f i = g i) : (List.range n).flatMap f = (List.range n).flatMap g := pk_fm h
theorem pt_M0S {s j : Nat} (hs : s < 20) : pt_M0 (5 + 3 * s) = fun j => if j = 3 then -1 else if j = 4 then -1 else 0 := by
  unfold pt_M0
  rw [if_neg (by omega), if_pos (pt_ks' s hs)]
theorem pt_M0T {s : Nat} (hs : s < 30) : pt_M0 (65 + 2 * s) = fun j => if j = 4 then -1 else if j = 5 then -1 else 0 := by
  unfold pt_M0
  rw [if_neg (by omega), if_neg (by rw [pt_kt' s hs]; decide), if_pos (pt_kt' s hs)]
set_option maxRecDepth 20000 in
theorem pk_dS : ∀ s, s < 20 → pt_kd (5 + 3 * s + 1) = 0 ∧ pt_kd (5 + 3 * s + 2) = 0 ∧ pt_ag (5 + 3 * s + 1) = false ∧ pt_ag (5 + 3 * s + 2) = false := by decide +kernel
set_option maxRecDepth 20000 in
theorem pk_dT : ∀ s, s < 30 → pt_kd (65 + 2 * s + 1) = 0 ∧ pt_ag (65 + 2 * s + 1) = false := by decide +kernel
set_option maxRecDepth 20000 in
theorem pk_dQ : ∀ s, s < 60 → (pt_kd (147 + 4 * s) = 4 ∧ pt_ag (147 + 4 * s) = false) ∧ (pt_kd (147 + 4 * s + 1) = 8 ∧ pt_len (147 + 4 * s + 1) = 20 ∧ pt_ag (147 + 4 * s + 1) = true) ∧ (pt_kd (147 + 4 * s + 2) = 8 ∧ pt_len (147 + 4 * s + 2) = 20 ∧ pt_ag (147 + 4 * s + 2) = false) ∧ (pt_kd (147 + 4 * s + 3) = 8 ∧ pt_len (147 + 4 * s + 3) = 4 ∧ pt_ag (147 + 4 * s + 3) = false) := by decide +kernel
theorem pt_M0z {k : Nat} (h1 : k ≠ 1) (h5 : pt_kd k ≠ 5) (h6 : pt_kd k ≠ 6) (ha : pt_ag k = false) : pt_M0 k = fun _ => 0 := by
  unfold pt_M0
  rw [if_neg h1, if_neg h5, if_neg h6, if_neg (by rw [ha]; decide)]
theorem pt_M0a {k : Nat} (h1 : k ≠ 1) (h5 : pt_kd k ≠ 5) (h6 : pt_kd k ≠ 6) (ha : pt_ag k = true) : pt_M0 k = fun _ => -1 := by
  unfold pt_M0
  rw [if_neg h1, if_neg h5, if_neg h6, if_pos ha]
set_option maxHeartbeats 4000000 in
set_option maxRecDepth 100000 in
theorem pk_toW {D : va_G} (cA : Nat → ClassId) (a : Nat) (u : pkU) {H : Heap} {A : Nat → Prop} (hP : va_P D pt_cl (pkE cA a u) H) (hD : va_D A (pkE cA a u)) : va_P D pt_cl (pt_W cA (pk_ad a u) pt_M0) H ∧ va_D A (pt_W cA (pk_ad a u) pt_M0) := by
  obtain ⟨⟨c, qs, qt, qc, fS, fT⟩, ⟨p, ps, px, py, pz, pf, pq, pt⟩, ⟨t, ts, tx, ty, tz, tf, tq, tt⟩, ⟨o, k1, k2, k3, k4, k5, fQ⟩⟩ := u
  generalize hu : ((c, qs, qt, qc, fS, fT), (p, ps, px, py, pz, pf, pq, pt), (t, ts, tx, ty, tz, tf, tq, tt), (o, k1, k2, k3, k4, k5, fQ)) = u
  have eS : ∀ s j, s < 20 → j < 3 → pk_ad a u (5 + 3 * s + j) = fS s j := by
    intro s j hs hj
    rw [← hu]
    show (if _ then _ else _) = _
    rw [if_neg (by omega), if_pos (by omega), show (5 + 3 * s + j - 5) / 3 = s by omega, show (5 + 3 * s + j - 5) % 3 = j by omega]
  have eT : ∀ s j, s < 30 → j < 2 → pk_ad a u (65 + 2 * s + j) = fT s j := by
    intro s j hs hj
    rw [← hu]
    show (if _ then _ else _) = _
    rw [if_neg (by omega), if_neg (by omega), if_pos (by omega), show (65 + 2 * s + j - 65) / 2 = s by omega, show (65 + 2 * s + j - 65) % 2 = j by omega]
  have eQ : ∀ s j, s < 60 → j < 4 → pk_ad a u (147 + 4 * s + j) = fQ s j := by
    intro s j hs hj
    rw [← hu]
    show (if _ then _ else _) = _
    rw [if_neg (by omega), if_neg (by omega), if_neg (by omega), if_neg (by omega), show (147 + 4 * s + j - 147) / 4 = s by omega, show (147 + 4 * s + j - 147) % 4 = j by omega]
  have e5 : ∀ k, k < 5 → pk_ad a u k = ([a, c, qs, qt, qc] : List Nat).getD k 0 := by
    intro k hk
    rw [← hu]
    show (if _ then _ else _) = _
    rw [if_pos hk]
  have eP : ∀ k, k < 22 → pk_ad a u (125 + k) = ([p, ps, px, py, pz, pf, pq, pt, t, ts, tx, ty, tz, tf, tq, tt, o, k1, k2, k3, k4, k5] : List Nat).getD k 0 := by
    intro k hk
    rw [← hu]
    show (if _ then _ else _) = _
    rw [if_neg (by omega), if_neg (by omega), if_neg (by omega), if_pos (by omega), show 125 + k - 125 = k by omega]
  have xP : ∀ k, k < 22 → ∀ v, ([p, ps, px, py, pz, pf, pq, pt, t, ts, tx, ty, tz, tf, tq, tt, o, k1, k2, k3, k4, k5] : List Nat).getD k 0 = v → pk_ad a u (125 + k) = v := fun k hk v h => (eP k hk).trans h
  generalize hA : pk_ad a u = ad at eS eT eQ e5 eP xP ⊢
  unfold pt_W
  have hr : List.range 387 = List.range' 0 5 ++ (List.range' 5 (3 * 20) ++ (List.range' 65 (2 * 30) ++ (List.range' 125 22 ++ List.range' 147 (4 * 60)))) := by decide +kernel
  rw [hr, List.map_append, List.map_append, List.map_append, List.map_append, pk_blk, pk_blk, pk_blk]
  have gS : (List.range 20).flatMap (fun s => (List.range' (5 + 3 * s) 3).map fun k => (ad k, pt_cel cA ad k (pt_M0 k))) = pk_S fS 20 := by
    refine pk_fm (fun s hs => ?_)
    obtain ⟨d1, d2, d3, d4⟩ := pk_dS s hs
    show [(ad (5 + 3 * s), pt_cel cA ad (5 + 3 * s) (pt_M0 (5 + 3 * s))), (ad (5 + 3 * s + 1), pt_cel cA ad (5 + 3 * s + 1) (pt_M0 (5 + 3 * s + 1))), (ad (5 + 3 * s + 2), pt_cel cA ad (5 + 3 * s + 2) (pt_M0 (5 + 3 * s + 2)))] = _
    rw [pt_c5 _ (pt_ks' s hs), pt_c0 _ d1, pt_c0 _ d2, pt_M0S (j := 0) hs, pt_M0z (by omega) (by rw [d1]; decide) (by rw [d1]; decide) d3, pt_M0z (by omega) (by rw [d2]; decide) (by rw [d2]; decide) d4, eS s 1 hs (by decide), eS s 2 hs (by decide)]
    have := eS s 0 hs (by decide)
    rw [Nat.add_zero] at this
    rw [this]
    rfl
  have gT : (List.range 30).flatMap (fun s => (List.range' (65 + 2 * s) 2).map fun k => (ad k, pt_cel cA ad k (pt_M0 k))) = pk_T fT 30 := by
    refine pk_fm (fun s hs => ?_)
    obtain ⟨d1, d3⟩ := pk_dT s hs
    show [(ad (65 + 2 * s), pt_cel cA ad (65 + 2 * s) (pt_M0 (65 + 2 * s))), (ad (65 + 2 * s + 1), pt_cel cA ad (65 + 2 * s + 1) (pt_M0 (65 + 2 * s + 1)))] = _
    rw [pt_c6 _ (pt_kt' s hs), pt_c0 _ d1, pt_M0T hs, pt_M0z (by omega) (by rw [d1]; decide) (by rw [d1]; decide) d3, eT s 1 hs (by decide)]
    have := eT s 0 hs (by decide)
    rw [Nat.add_zero] at this
    rw [this]
    rfl
  have gQ : (List.range 60).flatMap (fun s => (List.range' (147 + 4 * s) 4).map fun k => (ad k, pt_cel cA ad k (pt_M0 k))) = pk_Q cA fQ 60 := by
    refine pk_fm (fun s hs => ?_)
    obtain ⟨⟨d0, b0⟩, ⟨d1, m1, b1⟩, ⟨d2, m2, b2⟩, ⟨d3, m3, b3⟩⟩ := pk_dQ s hs
    show [(ad (147 + 4 * s), pt_cel cA ad (147 + 4 * s) (pt_M0 (147 + 4 * s))), (ad (147 + 4 * s + 1), pt_cel cA ad (147 + 4 * s + 1) (pt_M0 (147 + 4 * s + 1))), (ad (147 + 4 * s + 2), pt_cel cA ad (147 + 4 * s + 2) (pt_M0 (147 + 4 * s + 2))), (ad (147 + 4 * s + 3), pt_cel cA ad (147 + 4 * s + 3) (pt_M0 (147 + 4 * s + 3)))] = _
    rw [pt_c4 _ d0, pt_c8 _ ⟨d1, m1⟩, pt_c8 _ ⟨d2, m2⟩, pt_c8 _ ⟨d3, m3⟩, pt_M0z (by omega) (by rw [d0]; decide) (by rw [d0]; decide) b0, pt_M0a (by omega) (by rw [d1]; decide) (by rw [d1]; decide) b1, pt_M0z (by omega) (by rw [d2]; decide) (by rw [d2]; decide) b2, pt_M0z (by omega) (by rw [d3]; decide) (by rw [d3]; decide) b3, eQ s 1 hs (by decide), eQ s 2 hs (by decide), eQ s 3 hs (by decide)]
    have := eQ s 0 hs (by decide)
    rw [Nat.add_zero] at this
    rw [this]
    rfl
  rw [gS, gT, gQ]
  have f0 := e5 0 (by decide)
  have f1 := e5 1 (by decide)
  have f2 := e5 2 (by decide)
  have f3 := e5 3 (by decide)
  have f4 := e5 4 (by decide)
  have x0 := xP 0 (by decide) p rfl
  have x1 := xP 1 (by decide) ps rfl
  have x2 := xP 2 (by decide) px rfl
  have x3 := xP 3 (by decide) py rfl
  have x4 := xP 4 (by decide) pz rfl
  have x5 := xP 5 (by decide) pf rfl
  have x6 := xP 6 (by decide) pq rfl
  have x7 := xP 7 (by decide) pt rfl
  have x8 := xP 8 (by decide) t rfl
  have x9 := xP 9 (by decide) ts rfl
  have x10 := xP 10 (by decide) tx rfl
  have x11 := xP 11 (by decide) ty rfl
  have x12 := xP 12 (by decide) tz rfl
  have x13 := xP 13 (by decide) tf rfl
  have x14 := xP 14 (by decide) tq rfl
  have x15 := xP 15 (by decide) tt rfl
  have x16 := xP 16 (by decide) o rfl
  have x17 := xP 17 (by decide) k1 rfl
  have x18 := xP 18 (by decide) k2 rfl
  have x19 := xP 19 (by decide) k3 rfl
  have x20 := xP 20 (by decide) k4 rfl
  have x21 := xP 21 (by decide) k5 rfl
  have g5 : (List.range' 0 5).map (fun k => (ad k, pt_cel cA ad k (pt_M0 k))) = [(a, .inr (7, [.ref c, .ref p, .ref t, .ref o, .int 0])), (c, .inr (1, [.ref qs, .ref qt, .ref qc, .int 1, .int 0, .int 1, .int 0])), (qs, .inl (cA 1, 20, .inr (.inr (.inr (.inr (fun i => some (ad (5 + 3 * i)))))))), (qt, .inl (cA 2, 30, .inr (.inr (.inr (.inr (fun i => some (ad (65 + 2 * i)))))))), (qc, .inl (cA 0, 12, .inl (fun _ => 0)))] := by
    show [(ad 0, pt_cel cA ad 0 (pt_M0 0)), (ad 1, pt_cel cA ad 1 (pt_M0 1)), (ad 2, pt_cel cA ad 2 (pt_M0 2)), (ad 3, pt_cel cA ad 3 (pt_M0 3)), (ad 4, pt_cel cA ad 4 (pt_M0 4))] = _
    rw [pt_c7 _ pt_k0, pt_c1 _ pt_k1, pt_c9, pt_c10, pt_c8 _ pt_a4, f0, f1, f2, f3, f4, show ad 125 = p from x0, show ad 133 = t from x8, show ad 141 = o from x16]
    rfl
  have gP : (List.range' 125 22).map (fun k => (ad k, pt_cel cA ad k (pt_M0 k))) = pk3 cA p c (ps, px, py, pz, pf, pq, pt) ++ (pk3 cA t c (ts, tx, ty, tz, tf, tq, tt) ++ [(o, .inr (2, [.ref k1, .int 0, .int 0, .ref t, .ref k2, .ref k3, .ref k4, .ref k5, .int 0])), (k1, .inl (cA 0, 8, .inl (fun _ => 0))), (k2, .inl (cA 3, 60, .inr (.inr (.inr (.inr (fun i => some (ad (147 + 4 * i)))))))), (k3, .inl (cA 0, 60, .inl (fun _ => 0))), (k4, .inl (cA 0, 60, .inl (fun _ => 0))), (k5, .inl (cA 0, 60, .inl (fun _ => 0)))]) := by
    show [(ad 125, pt_cel cA ad 125 (pt_M0 125)), (ad 126, pt_cel cA ad 126 (pt_M0 126)), (ad 127, pt_cel cA ad 127 (pt_M0 127)), (ad 128, pt_cel cA ad 128 (pt_M0 128)), (ad 129, pt_cel cA ad 129 (pt_M0 129)), (ad 130, pt_cel cA ad 130 (pt_M0 130)), (ad 131, pt_cel cA ad 131 (pt_M0 131)), (ad 132, pt_cel cA ad 132 (pt_M0 132)), (ad 133, pt_cel cA ad 133 (pt_M0 133)), (ad 134, pt_cel cA ad 134 (pt_M0 134)), (ad 135, pt_cel cA ad 135 (pt_M0 135)), (ad 136, pt_cel cA ad 136 (pt_M0 136)), (ad 137, pt_cel cA ad 137 (pt_M0 137)), (ad 138, pt_cel cA ad 138 (pt_M0 138)), (ad 139, pt_cel cA ad 139 (pt_M0 139)), (ad 140, pt_cel cA ad 140 (pt_M0 140)), (ad 141, pt_cel cA ad 141 (pt_M0 141)), (ad 142, pt_cel cA ad 142 (pt_M0 142)), (ad 143, pt_cel cA ad 143 (pt_M0 143)), (ad 144, pt_cel cA ad 144 (pt_M0 144)), (ad 145, pt_cel cA ad 145 (pt_M0 145)), (ad 146, pt_cel cA ad 146 (pt_M0 146))] = _
    rw [pt_c3 _ pt_k125, pt_c4 (k := 126) _ (by decide), pt_c8 (k := 127) (n := 20) _ (by decide), pt_c8 (k := 128) (n := 20) _ (by decide), pt_c8 (k := 129) (n := 4) _ (by decide), pt_c8 (k := 130) (n := 30) _ (by decide), pt_c8 (k := 131) (n := 8) _ (by decide), pt_c8 (k := 132) (n := 30) _ (by decide),
      pt_c3 _ pt_k133, pt_c4 (k := 134) _ (by decide), pt_c8 (k := 135) (n := 20) _ (by decide), pt_c8 (k := 136) (n := 20) _ (by decide), pt_c8 (k := 137) (n := 4) _ (by decide), pt_c8 (k := 138) (n := 30) _ (by decide), pt_c8 (k := 139) (n := 8) _ (by decide), pt_c8 (k := 140) (n := 30) _ (by decide),
      pt_c2 _ pt_k141, pt_c8 _ pt_a142, pt_c11, pt_c8 _ pt_a144, pt_c8 _ pt_a145, pt_c8 _ pt_a146]
    try rw [show ad 1 = c from f1]
    try rw [show ad (125 + 1) = ps from x1]
    try rw [show ad (125 + 5) = pf from x5]
    try rw [show ad (125 + 6) = pq from x6]
    try rw [show ad (125 + 7) = pt from x7]
    try rw [show ad (126 + 1) = px from x2]
    try rw [show ad (126 + 2) = py from x3]
    try rw [show ad (126 + 3) = pz from x4]
    try rw [show ad (133 + 1) = ts from x9]
    try rw [show ad (133 + 5) = tf from x13]
    try rw [show ad (133 + 6) = tq from x14]
    try rw [show ad (133 + 7) = tt from x15]
    try rw [show ad (134 + 1) = tx from x10]
    try rw [show ad (134 + 2) = ty from x11]
    try rw [show ad (134 + 3) = tz from x12]
    try rw [show ad 125 = p from x0]
    try rw [show ad 126 = ps from x1]
    try rw [show ad 127 = px from x2]
    try rw [show ad 128 = py from x3]
    try rw [show ad 129 = pz from x4]
    try rw [show ad 130 = pf from x5]
    try rw [show ad 131 = pq from x6]
    try rw [show ad 132 = pt from x7]
    try rw [show ad 133 = t from x8]
    try rw [show ad 134 = ts from x9]
    try rw [show ad 135 = tx from x10]
    try rw [show ad 136 = ty from x11]
    try rw [show ad 137 = tz from x12]
    try rw [show ad 138 = tf from x13]
    try rw [show ad 139 = tq from x14]
    try rw [show ad 140 = tt from x15]
    try rw [show ad 141 = o from x16]
    try rw [show ad 142 = k1 from x17]
    try rw [show ad 143 = k2 from x18]
    try rw [show ad 144 = k3 from x19]
    try rw [show ad 145 = k4 from x20]
    try rw [show ad 146 = k5 from x21]
    rfl
  rw [g5, gP]
  have hP' : va_P D pt_cl ([(a, .inr (7, [.ref c, .ref p, .ref t, .ref o, .int 0]))] ++ (([(c, .inr (1, [.ref qs, .ref qt, .ref qc, .int 1, .int 0, .int 1, .int 0])), (qs, .inl (cA 1, 20, .inr (.inr (.inr (.inr (fun i => some (fS i 0))))))), (qt, .inl (cA 2, 30, .inr (.inr (.inr (.inr (fun i => some (fT i 0))))))), (qc, .inl (cA 0, 12, .inl (fun _ => 0)))] ++ (pk_S fS 20 ++ pk_T fT 30)) ++ (pk3 cA p c (ps, px, py, pz, pf, pq, pt) ++ (pk3 cA t c (ts, tx, ty, tz, tf, tq, tt) ++ ([(o, .inr (2, [.ref k1, .int 0, .int 0, .ref t, .ref k2, .ref k3, .ref k4, .ref k5, .int 0])), (k1, .inl (cA 0, 8, .inl (fun _ => 0))), (k2, .inl (cA 3, 60, .inr (.inr (.inr (.inr (fun i => some (fQ i 0))))))), (k3, .inl (cA 0, 60, .inl (fun _ => 0))), (k4, .inl (cA 0, 60, .inl (fun _ => 0))), (k5, .inl (cA 0, 60, .inl (fun _ => 0)))] ++ pk_Q cA fQ 60))))) H := hP
  obtain ⟨h1, h2⟩ := pt_xP.mp hP'
  obtain ⟨h2, h3⟩ := pt_xP.mp h2
  obtain ⟨h2, h2'⟩ := pt_xP.mp h2
  obtain ⟨hS, hT⟩ := pt_xP.mp h2'
  obtain ⟨h3, h4⟩ := pt_xP.mp h3
  obtain ⟨h4, h5⟩ := pt_xP.mp h4
  obtain ⟨h5, hQ⟩ := pt_xP.mp h5
  have h2 := pt_xfunq (B := []) h2 1 rfl (g := fun i => some (ad (5 + 3 * i))) (fun j hj => by rw [← eS j 0 hj (by decide)]; rfl) rfl
  have h2 := pt_xfunq (B := []) h2 2 rfl (g := fun i => some (ad (65 + 2 * i))) (fun j hj => by rw [← eT j 0 hj (by decide)]; rfl) rfl
  have h5 := pt_xfunq (B := []) h5 2 rfl (g := fun i => some (ad (147 + 4 * i))) (fun j hj => by rw [← eQ j 0 hj (by decide)]; rfl) rfl
  refine ⟨?_, ?_⟩
  · exact pt_xP.mpr ⟨(show va_P D pt_cl [_, _, _, _, _] H from h1.app h2), pt_xP.mpr ⟨hS, pt_xP.mpr ⟨hT, pt_xP.mpr ⟨pt_xP.mpr ⟨h3, pt_xP.mpr ⟨h4, h5⟩⟩, hQ⟩⟩⟩⟩
  · obtain ⟨d1, d2⟩ := pt_vD.mp hD
    refine pt_vD.mpr ⟨?_, fun q hq => ?_⟩
    · rw [show ((_ : va_W).map (·.1)) = (pkE cA a ((c, qs, qt, qc, fS, fT), (p, ps, px, py, pz, pf, pq, pt), (t, ts, tx, ty, tz, tf, tq, tt), (o, k1, k2, k3, k4, k5, fQ))).map (·.1) from by simp only [pkE, pkC, pkL, pk3, List.map_append, List.map_cons, List.map_nil, List.append_assoc, List.cons_append, List.nil_append]]
      exact d1
    · have hm : q.1 ∈ (pkE cA a ((c, qs, qt, qc, fS, fT), (p, ps, px, py, pz, pf, pq, pt), (t, ts, tx, ty, tz, tf, tq, tt), (o, k1, k2, k3, k4, k5, fQ))).map (·.1) := by
        have := List.mem_map_of_mem (f := fun x : Nat × va_E => x.1) hq
        simpa only [pkE, pkC, pkL, pk3, List.map_append, List.map_cons, List.map_nil, List.append_assoc, List.cons_append, List.nil_append] using this
      obtain ⟨q', h1, h2⟩ := List.mem_map.mp hm
      rw [← h2]
      exact d2 q' h1
