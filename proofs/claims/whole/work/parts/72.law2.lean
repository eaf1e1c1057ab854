section LA
variable {p : Program} {l : Launch} {e : Env} {R : Room} {s : State} {m : MethodId} {args : Array Value} {below : List Frame} {meth : Method} {c : Code} {H : Heap} {locs : List Loc} {cells slots : Nat} {Q : State → Prop} {cc : ByteArray} {pc : Nat} {ls : Array Slot} {rest : List Value} {D : va_G} {cs : Nat → ClassId}
variable {a am : Int → Nat} {b L : Nat} {xs : Nat → Int32} {N : Int} {A : Nat → Prop} {H0 : Heap}
set_option maxHeartbeats 4000000 in
set_option maxRecDepth 100000 in
theorem law_bill (C0 : LC p l s m meth c b L xs D cs a am) (hN : 0 ≤ N ∧ N ≤ 900000) {i : Int} (hi : 0 ≤ i ∧ i + 3 < L) (nx : ∀ (H : Heap) (locs : List Loc), LW D cs a am (N + 100) H → va_S (fun q : Nat => s.heap.size ≤ q) s.heap H locs → W p l e room_1 s m #[Value.ref b] below meth c H locs 244 3174 Q (F0 m 791 ls [])) (hW : LW D cs a am N H) (hS : va_S (fun q : Nat => s.heap.size ≤ q) s.heap H locs) (hl : lv_has ls 4 [(3, .int (zI i)), (2, .ref (am 0)), (1, .ref (a 0)), (0, .ref b)]) : W p l e room_1 s m #[Value.ref b] below meth c H locs 244 3174 Q (F0 m 515 ls []) := by
  obtain ⟨S, hK, hZ, hX, hbl, ⟨hI, hm⟩, hea, hma, hdis, hL⟩ := C0
  have hx := S.1
  have hb := S.2.1
  have hown := S.2.2.2.1
  have hts := S.2.2.2.2
  have hbA : ¬ (fun q : Nat => s.heap.size ≤ q) b := Nat.not_le.mpr hbl
  obtain ⟨σ, pa, sl, sv, pd, kn, ln, τ, ss, hh, pr, pd2, fr, su, hM, hE, hR⟩ := hW
  refine lv_aload_n hx hb dL_law_515 rfl (lv_at hl 2 rfl) ?_
  refine lv_aload_n hx hb dL_law_516 rfl (lv_at hl 3 rfl) ?_
  refine lv_iload_n hx hb dL_law_517 rfl (lv_at hl 0 rfl) ?_
  refine x_iconst hx hb dL_law_518 ?_
  refine x_iadd hx hb dL_law_519 ?_
  refine l_arg hx hb hX hbl hbA hS (i := i + 1) (by omega) hL dL_law_520 ?_
  obtain ⟨x, σ1, pa1, sl1, sv1, pd1, kn1, ln1, τ1, ss1, hh1, pr1, pd21, ln21, fr1, kp1, su1, h1, h2, h3⟩ := pr_bill (l := l) (D := D) (cs := cs) (Nz := s.heap.size) (a := a) (am := am) (pr := pr) hR hI hm hea hN (zI_rng _)
  refine x_callVMz (As := [.int (zI (sx xs (i + 1)))]) (rest := []) S hK (kZ.keptS hZ hS (fun q h => h)) h1 (cwV 1 hts gL_law_X6_bill rfl rfl rfl (by decide +kernel) ⟨(Nat.le_of_ble_eq_true rfl), (Nat.le_of_ble_eq_true rfl)⟩) (x_rc hK (eAt_0 hE) rfl) hE rfl hl.1 (Nat.le_of_ble_eq_true rfl) dL_law_521 ⟨(Nat.le_of_ble_eq_true rfl), (Nat.le_of_ble_eq_true rfl)⟩ hS hea (fun H locs hE hF hS => ?_)
  have hM : mAt D cs am σ pa sl sv pd kn ln H := bAt_F hM hF (fun j p q z => by
    obtain ⟨i2, p2, q2, z2⟩ := z
    exact hdis i2 j p2 q2 p q z2.symm)
  refine lv_aload_n hx hb dL_law_524 rfl (lv_at hl 1 rfl) ?_
  refine lv_aload_n hx hb dL_law_525 rfl (lv_at hl 3 rfl) ?_
  refine lv_iload_n hx hb dL_law_526 rfl (lv_at hl 0 rfl) ?_
  refine x_iconst hx hb dL_law_527 ?_
  refine x_iadd hx hb dL_law_528 ?_
  refine l_arg hx hb hX hbl hbA hS (i := i + 1) (by omega) hL dL_law_529 ?_
  refine x_callVM (As := [.int (zI (sx xs (i + 1)))]) (rest := [.int (zI x)]) S hK h2 (cwV 1 hts gL_law_X7_bill rfl rfl rfl (by decide +kernel) ⟨(Nat.le_of_ble_eq_true rfl), (Nat.le_of_ble_eq_true rfl)⟩) (x_rc hK (mAt_0 hM) rfl) hM rfl hl.1 (Nat.le_of_ble_eq_true rfl) dL_law_530 ⟨(Nat.le_of_ble_eq_true rfl), (Nat.le_of_ble_eq_true rfl)⟩ hS hma (fun H locs hM hF hS => ?_)
  have hE : eAt D cs a τ1 ss1 hh1 pr1 pd21 ln21 fr1 kp1 su1 H := bAt_F hE hF (fun j p q z => by
    obtain ⟨i2, p2, q2, z2⟩ := z
    exact hdis j i2 p q p2 q2 z2)
  refine lv_icmp_eq (tgt := 791) hx hb dL_law_533 (by decide) (fun _ => ?_) (fun z => absurd rfl z)
  exact nx H locs (LW_mk hM hE h3) hS
set_option maxHeartbeats 4000000 in
set_option maxRecDepth 100000 in
theorem law_turnsIn (C0 : LC p l s m meth c b L xs D cs a am) (hN : 0 ≤ N ∧ N ≤ 900000) {i : Int} (hi : 0 ≤ i ∧ i + 3 < L) (nx : ∀ (H : Heap) (locs : List Loc), LW D cs a am (N + 100) H → va_S (fun q : Nat => s.heap.size ≤ q) s.heap H locs → W p l e room_1 s m #[Value.ref b] below meth c H locs 244 3174 Q (F0 m 791 ls [])) (hW : LW D cs a am N H) (hS : va_S (fun q : Nat => s.heap.size ≤ q) s.heap H locs) (hl : lv_has ls 4 [(3, .int (zI i)), (2, .ref (am 0)), (1, .ref (a 0)), (0, .ref b)]) : W p l e room_1 s m #[Value.ref b] below meth c H locs 244 3174 Q (F0 m 538 ls []) := by
  obtain ⟨S, hK, hZ, hX, hbl, ⟨hI, hm⟩, hea, hma, hdis, hL⟩ := C0
  have hx := S.1
  have hb := S.2.1
  have hown := S.2.2.2.1
  have hts := S.2.2.2.2
  have hbA : ¬ (fun q : Nat => s.heap.size ≤ q) b := Nat.not_le.mpr hbl
  obtain ⟨σ, pa, sl, sv, pd, kn, ln, τ, ss, hh, pr, pd2, fr, su, hM, hE, hR⟩ := hW
  refine lv_aload_n hx hb dL_law_538 rfl (lv_at hl 2 rfl) ?_
  refine lv_aload_n hx hb dL_law_539 rfl (lv_at hl 3 rfl) ?_
  refine lv_iload_n hx hb dL_law_540 rfl (lv_at hl 0 rfl) ?_
  refine x_iconst hx hb dL_law_541 ?_
  refine x_iadd hx hb dL_law_542 ?_
  refine l_arg hx hb hX hbl hbA hS (i := i + 1) (by omega) hL dL_law_543 ?_
  obtain ⟨x, σ1, pa1, sl1, sv1, pd1, kn1, ln1, τ1, ss1, hh1, pr1, pd21, ln21, fr1, kp1, su1, h1, h2, h3⟩ := pr_turnsIn (l := l) (D := D) (cs := cs) (Nz := s.heap.size) (a := a) (am := am) (pr := pr) hR hI hm hea hN (zI_rng _)
  refine x_callVMz (As := [.int (zI (sx xs (i + 1)))]) (rest := []) S hK (kZ.keptS hZ hS (fun q h => h)) h1 (cwV 1 hts gL_law_X6_turnsIn rfl rfl rfl (by decide +kernel) ⟨(Nat.le_of_ble_eq_true rfl), (Nat.le_of_ble_eq_true rfl)⟩) (x_rc hK (eAt_0 hE) rfl) hE rfl hl.1 (Nat.le_of_ble_eq_true rfl) dL_law_544 ⟨(Nat.le_of_ble_eq_true rfl), (Nat.le_of_ble_eq_true rfl)⟩ hS hea (fun H locs hE hF hS => ?_)
  have hM : mAt D cs am σ pa sl sv pd kn ln H := bAt_F hM hF (fun j p q z => by
    obtain ⟨i2, p2, q2, z2⟩ := z
    exact hdis i2 j p2 q2 p q z2.symm)
  refine lv_aload_n hx hb dL_law_547 rfl (lv_at hl 1 rfl) ?_
  refine lv_aload_n hx hb dL_law_548 rfl (lv_at hl 3 rfl) ?_
  refine lv_iload_n hx hb dL_law_549 rfl (lv_at hl 0 rfl) ?_
  refine x_iconst hx hb dL_law_550 ?_
  refine x_iadd hx hb dL_law_551 ?_
  refine l_arg hx hb hX hbl hbA hS (i := i + 1) (by omega) hL dL_law_552 ?_
  refine x_callVM (As := [.int (zI (sx xs (i + 1)))]) (rest := [.int (zI x)]) S hK h2 (cwV 1 hts gL_law_X7_turnsIn rfl rfl rfl (by decide +kernel) ⟨(Nat.le_of_ble_eq_true rfl), (Nat.le_of_ble_eq_true rfl)⟩) (x_rc hK (mAt_0 hM) rfl) hM rfl hl.1 (Nat.le_of_ble_eq_true rfl) dL_law_553 ⟨(Nat.le_of_ble_eq_true rfl), (Nat.le_of_ble_eq_true rfl)⟩ hS hma (fun H locs hM hF hS => ?_)
  have hE : eAt D cs a τ1 ss1 hh1 pr1 pd21 ln21 fr1 kp1 su1 H := bAt_F hE hF (fun j p q z => by
    obtain ⟨i2, p2, q2, z2⟩ := z
    exact hdis j i2 p q p2 q2 z2)
  refine lv_icmp_eq (tgt := 791) hx hb dL_law_556 (by decide) (fun _ => ?_) (fun z => absurd rfl z)
  exact nx H locs (LW_mk hM hE h3) hS
set_option maxHeartbeats 4000000 in
set_option maxRecDepth 100000 in
theorem law_wouldTurn (C0 : LC p l s m meth c b L xs D cs a am) (hN : 0 ≤ N ∧ N ≤ 900000) {i : Int} (hi : 0 ≤ i ∧ i + 3 < L) (nx : ∀ (H : Heap) (locs : List Loc), LW D cs a am (N + 100) H → va_S (fun q : Nat => s.heap.size ≤ q) s.heap H locs → W p l e room_1 s m #[Value.ref b] below meth c H locs 244 3174 Q (F0 m 791 ls [])) (hW : LW D cs a am N H) (hS : va_S (fun q : Nat => s.heap.size ≤ q) s.heap H locs) (hl : lv_has ls 4 [(3, .int (zI i)), (2, .ref (am 0)), (1, .ref (a 0)), (0, .ref b)]) : W p l e room_1 s m #[Value.ref b] below meth c H locs 244 3174 Q (F0 m 561 ls []) := by
  obtain ⟨S, hK, hZ, hX, hbl, ⟨hI, hm⟩, hea, hma, hdis, hL⟩ := C0
  have hx := S.1
  have hb := S.2.1
  have hown := S.2.2.2.1
  have hts := S.2.2.2.2
  have hbA : ¬ (fun q : Nat => s.heap.size ≤ q) b := Nat.not_le.mpr hbl
  obtain ⟨σ, pa, sl, sv, pd, kn, ln, τ, ss, hh, pr, pd2, fr, su, hM, hE, hR⟩ := hW
  refine lv_aload_n hx hb dL_law_561 rfl (lv_at hl 2 rfl) ?_
  refine lv_aload_n hx hb dL_law_562 rfl (lv_at hl 3 rfl) ?_
  refine lv_iload_n hx hb dL_law_563 rfl (lv_at hl 0 rfl) ?_
  refine x_iconst hx hb dL_law_564 ?_
  refine x_iadd hx hb dL_law_565 ?_
  refine l_arg hx hb hX hbl hbA hS (i := i + 1) (by omega) hL dL_law_566 ?_
  refine lv_aload_n hx hb dL_law_567 rfl (lv_at hl 3 rfl) ?_
  refine lv_iload_n hx hb dL_law_568 rfl (lv_at hl 0 rfl) ?_
  refine x_iconst hx hb dL_law_569 ?_
  refine x_iadd hx hb dL_law_570 ?_
  refine l_arg hx hb hX hbl hbA hS (i := i + 2) (by omega) hL dL_law_571 ?_
  refine lv_aload_n hx hb dL_law_572 rfl (lv_at hl 3 rfl) ?_
  refine lv_iload_n hx hb dL_law_573 rfl (lv_at hl 0 rfl) ?_
  refine x_iconst hx hb dL_law_574 ?_
  refine x_iadd hx hb dL_law_575 ?_
  refine l_arg hx hb hX hbl hbA hS (i := i + 3) (by omega) hL dL_law_576 ?_
  obtain ⟨x, σ1, pa1, sl1, sv1, pd1, kn1, ln1, τ1, ss1, hh1, pr1, pd21, ln21, fr1, kp1, su1, h1, h2, h3⟩ := pr_wouldTurn (l := l) (D := D) (cs := cs) (Nz := s.heap.size) (a := a) (am := am) (pr := pr) hR hI hm hea hN (zI_rng _) (zI_rng _) (zI_rng _)
  refine x_callVMz (As := [.int (zI (sx xs (i + 1))), .int (zI (sx xs (i + 2))), .int (zI (sx xs (i + 3)))]) (rest := []) S hK (kZ.keptS hZ hS (fun q h => h)) h1 (cwV 3 hts gL_law_X6_wouldTurn rfl rfl rfl (by decide +kernel) ⟨(Nat.le_of_ble_eq_true rfl), (Nat.le_of_ble_eq_true rfl)⟩) (x_rc hK (eAt_0 hE) rfl) hE rfl hl.1 (Nat.le_of_ble_eq_true rfl) dL_law_577 ⟨(Nat.le_of_ble_eq_true rfl), (Nat.le_of_ble_eq_true rfl)⟩ hS hea (fun H locs hE hF hS => ?_)
  have hM : mAt D cs am σ pa sl sv pd kn ln H := bAt_F hM hF (fun j p q z => by
    obtain ⟨i2, p2, q2, z2⟩ := z
    exact hdis i2 j p2 q2 p q z2.symm)
  refine lv_aload_n hx hb dL_law_580 rfl (lv_at hl 1 rfl) ?_
  refine lv_aload_n hx hb dL_law_581 rfl (lv_at hl 3 rfl) ?_
  refine lv_iload_n hx hb dL_law_582 rfl (lv_at hl 0 rfl) ?_
  refine x_iconst hx hb dL_law_583 ?_
  refine x_iadd hx hb dL_law_584 ?_
  refine l_arg hx hb hX hbl hbA hS (i := i + 1) (by omega) hL dL_law_585 ?_
  refine lv_aload_n hx hb dL_law_586 rfl (lv_at hl 3 rfl) ?_
  refine lv_iload_n hx hb dL_law_587 rfl (lv_at hl 0 rfl) ?_
  refine x_iconst hx hb dL_law_588 ?_
  refine x_iadd hx hb dL_law_589 ?_
  refine l_arg hx hb hX hbl hbA hS (i := i + 2) (by omega) hL dL_law_590 ?_
  refine lv_aload_n hx hb dL_law_591 rfl (lv_at hl 3 rfl) ?_
  refine lv_iload_n hx hb dL_law_592 rfl (lv_at hl 0 rfl) ?_
  refine x_iconst hx hb dL_law_593 ?_
  refine x_iadd hx hb dL_law_594 ?_
  refine l_arg hx hb hX hbl hbA hS (i := i + 3) (by omega) hL dL_law_595 ?_
  refine x_callVM (As := [.int (zI (sx xs (i + 1))), .int (zI (sx xs (i + 2))), .int (zI (sx xs (i + 3)))]) (rest := [.int (zI x)]) S hK h2 (cwV 3 hts gL_law_X7_wouldTurn rfl rfl rfl (by decide +kernel) ⟨(Nat.le_of_ble_eq_true rfl), (Nat.le_of_ble_eq_true rfl)⟩) (x_rc hK (mAt_0 hM) rfl) hM rfl hl.1 (Nat.le_of_ble_eq_true rfl) dL_law_596 ⟨(Nat.le_of_ble_eq_true rfl), (Nat.le_of_ble_eq_true rfl)⟩ hS hma (fun H locs hM hF hS => ?_)
  have hE : eAt D cs a τ1 ss1 hh1 pr1 pd21 ln21 fr1 kp1 su1 H := bAt_F hE hF (fun j p q z => by
    obtain ⟨i2, p2, q2, z2⟩ := z
    exact hdis j i2 p q p2 q2 z2)
  refine lv_icmp_eq (tgt := 791) hx hb dL_law_599 (by decide) (fun _ => ?_) (fun z => absurd rfl z)
  exact nx H locs (LW_mk hM hE h3) hS
set_option maxHeartbeats 4000000 in
set_option maxRecDepth 100000 in
theorem law_worst (C0 : LC p l s m meth c b L xs D cs a am) (hN : 0 ≤ N ∧ N ≤ 900000) {i : Int} (hi : 0 ≤ i ∧ i + 3 < L) (nx : ∀ (H : Heap) (locs : List Loc), LW D cs a am (N + 100) H → va_S (fun q : Nat => s.heap.size ≤ q) s.heap H locs → W p l e room_1 s m #[Value.ref b] below meth c H locs 244 3174 Q (F0 m 791 ls [])) (hW : LW D cs a am N H) (hS : va_S (fun q : Nat => s.heap.size ≤ q) s.heap H locs) (hl : lv_has ls 4 [(3, .int (zI i)), (2, .ref (am 0)), (1, .ref (a 0)), (0, .ref b)]) : W p l e room_1 s m #[Value.ref b] below meth c H locs 244 3174 Q (F0 m 604 ls []) := by
  obtain ⟨S, hK, hZ, hX, hbl, ⟨hI, hm⟩, hea, hma, hdis, hL⟩ := C0
  have hx := S.1
  have hb := S.2.1
  have hown := S.2.2.2.1
  have hts := S.2.2.2.2
  have hbA : ¬ (fun q : Nat => s.heap.size ≤ q) b := Nat.not_le.mpr hbl
  obtain ⟨σ, pa, sl, sv, pd, kn, ln, τ, ss, hh, pr, pd2, fr, su, hM, hE, hR⟩ := hW
  refine lv_aload_n hx hb dL_law_604 rfl (lv_at hl 2 rfl) ?_
  obtain ⟨x, σ1, pa1, sl1, sv1, pd1, kn1, ln1, τ1, ss1, hh1, pr1, pd21, ln21, fr1, kp1, su1, h1, h2, h3⟩ := pr_worst (l := l) (D := D) (cs := cs) (Nz := s.heap.size) (a := a) (am := am) (pr := pr) hR hI hm hea hN 
  refine x_callVMz (As := []) (rest := []) S hK (kZ.keptS hZ hS (fun q h => h)) h1 (cwV 0 hts gL_law_X6_worst rfl rfl rfl (by decide +kernel) ⟨(Nat.le_of_ble_eq_true rfl), (Nat.le_of_ble_eq_true rfl)⟩) (x_rc hK (eAt_0 hE) rfl) hE rfl hl.1 (Nat.le_of_ble_eq_true rfl) dL_law_605 ⟨(Nat.le_of_ble_eq_true rfl), (Nat.le_of_ble_eq_true rfl)⟩ hS hea (fun H locs hE hF hS => ?_)
  have hM : mAt D cs am σ pa sl sv pd kn ln H := bAt_F hM hF (fun j p q z => by
    obtain ⟨i2, p2, q2, z2⟩ := z
    exact hdis i2 j p2 q2 p q z2.symm)
  refine lv_aload_n hx hb dL_law_608 rfl (lv_at hl 1 rfl) ?_
  refine x_callVM (As := []) (rest := [.int (zI x)]) S hK h2 (cwV 0 hts gL_law_X7_worst rfl rfl rfl (by decide +kernel) ⟨(Nat.le_of_ble_eq_true rfl), (Nat.le_of_ble_eq_true rfl)⟩) (x_rc hK (mAt_0 hM) rfl) hM rfl hl.1 (Nat.le_of_ble_eq_true rfl) dL_law_609 ⟨(Nat.le_of_ble_eq_true rfl), (Nat.le_of_ble_eq_true rfl)⟩ hS hma (fun H locs hM hF hS => ?_)
  have hE : eAt D cs a τ1 ss1 hh1 pr1 pd21 ln21 fr1 kp1 su1 H := bAt_F hE hF (fun j p q z => by
    obtain ⟨i2, p2, q2, z2⟩ := z
    exact hdis j i2 p q p2 q2 z2)
  refine lv_icmp_eq (tgt := 791) hx hb dL_law_612 (by decide) (fun _ => ?_) (fun z => absurd rfl z)
  exact nx H locs (LW_mk hM hE h3) hS
set_option maxHeartbeats 4000000 in
set_option maxRecDepth 100000 in
theorem law_lags (C0 : LC p l s m meth c b L xs D cs a am) (hN : 0 ≤ N ∧ N ≤ 900000) {i : Int} (hi : 0 ≤ i ∧ i + 3 < L) (nx : ∀ (H : Heap) (locs : List Loc), LW D cs a am (N + 100) H → va_S (fun q : Nat => s.heap.size ≤ q) s.heap H locs → W p l e room_1 s m #[Value.ref b] below meth c H locs 244 3174 Q (F0 m 791 ls [])) (hW : LW D cs a am N H) (hS : va_S (fun q : Nat => s.heap.size ≤ q) s.heap H locs) (hl : lv_has ls 4 [(3, .int (zI i)), (2, .ref (am 0)), (1, .ref (a 0)), (0, .ref b)]) : W p l e room_1 s m #[Value.ref b] below meth c H locs 244 3174 Q (F0 m 617 ls []) := by
  obtain ⟨S, hK, hZ, hX, hbl, ⟨hI, hm⟩, hea, hma, hdis, hL⟩ := C0
  have hx := S.1
  have hb := S.2.1
  have hown := S.2.2.2.1
  have hts := S.2.2.2.2
  have hbA : ¬ (fun q : Nat => s.heap.size ≤ q) b := Nat.not_le.mpr hbl
  obtain ⟨σ, pa, sl, sv, pd, kn, ln, τ, ss, hh, pr, pd2, fr, su, hM, hE, hR⟩ := hW
  refine lv_aload_n hx hb dL_law_617 rfl (lv_at hl 2 rfl) ?_
  refine lv_aload_n hx hb dL_law_618 rfl (lv_at hl 3 rfl) ?_
  refine lv_iload_n hx hb dL_law_619 rfl (lv_at hl 0 rfl) ?_
  refine x_iconst hx hb dL_law_620 ?_
  refine x_iadd hx hb dL_law_621 ?_
  refine l_arg hx hb hX hbl hbA hS (i := i + 1) (by omega) hL dL_law_622 ?_
  obtain ⟨x, σ1, pa1, sl1, sv1, pd1, kn1, ln1, τ1, ss1, hh1, pr1, pd21, ln21, fr1, kp1, su1, h1, h2, h3⟩ := pr_lags (l := l) (D := D) (cs := cs) (Nz := s.heap.size) (a := a) (am := am) (pr := pr) hR hI hm hea hN (zI_rng _)
  refine x_callVMz (As := [.int (zI (sx xs (i + 1)))]) (rest := []) S hK (kZ.keptS hZ hS (fun q h => h)) h1 (cwV 1 hts gL_law_X6_lags rfl rfl rfl (by decide +kernel) ⟨(Nat.le_of_ble_eq_true rfl), (Nat.le_of_ble_eq_true rfl)⟩) (x_rc hK (eAt_0 hE) rfl) hE rfl hl.1 (Nat.le_of_ble_eq_true rfl) dL_law_623 ⟨(Nat.le_of_ble_eq_true rfl), (Nat.le_of_ble_eq_true rfl)⟩ hS hea (fun H locs hE hF hS => ?_)
  have hM : mAt D cs am σ pa sl sv pd kn ln H := bAt_F hM hF (fun j p q z => by
    obtain ⟨i2, p2, q2, z2⟩ := z
    exact hdis i2 j p2 q2 p q z2.symm)
  refine lv_aload_n hx hb dL_law_626 rfl (lv_at hl 1 rfl) ?_
  refine lv_aload_n hx hb dL_law_627 rfl (lv_at hl 3 rfl) ?_
  refine lv_iload_n hx hb dL_law_628 rfl (lv_at hl 0 rfl) ?_
  refine x_iconst hx hb dL_law_629 ?_
  refine x_iadd hx hb dL_law_630 ?_
  refine l_arg hx hb hX hbl hbA hS (i := i + 1) (by omega) hL dL_law_631 ?_
  refine x_callVM (As := [.int (zI (sx xs (i + 1)))]) (rest := [.int (zI x)]) S hK h2 (cwV 1 hts gL_law_X7_lags rfl rfl rfl (by decide +kernel) ⟨(Nat.le_of_ble_eq_true rfl), (Nat.le_of_ble_eq_true rfl)⟩) (x_rc hK (mAt_0 hM) rfl) hM rfl hl.1 (Nat.le_of_ble_eq_true rfl) dL_law_632 ⟨(Nat.le_of_ble_eq_true rfl), (Nat.le_of_ble_eq_true rfl)⟩ hS hma (fun H locs hM hF hS => ?_)
  have hE : eAt D cs a τ1 ss1 hh1 pr1 pd21 ln21 fr1 kp1 su1 H := bAt_F hE hF (fun j p q z => by
    obtain ⟨i2, p2, q2, z2⟩ := z
    exact hdis j i2 p q p2 q2 z2)
  refine lv_icmp_eq (tgt := 791) hx hb dL_law_635 (by decide) (fun _ => ?_) (fun z => absurd rfl z)
  exact nx H locs (LW_mk hM hE h3) hS
set_option maxHeartbeats 4000000 in
set_option maxRecDepth 100000 in
theorem law_put (C0 : LC p l s m meth c b L xs D cs a am) (hN : 0 ≤ N ∧ N ≤ 900000) {i : Int} (hi : 0 ≤ i ∧ i + 3 < L) (nx : ∀ (H : Heap) (locs : List Loc), LW D cs a am (N + 100) H → va_S (fun q : Nat => s.heap.size ≤ q) s.heap H locs → W p l e room_1 s m #[Value.ref b] below meth c H locs 244 3174 Q (F0 m 791 ls [])) (hW : LW D cs a am N H) (hS : va_S (fun q : Nat => s.heap.size ≤ q) s.heap H locs) (hl : lv_has ls 4 [(3, .int (zI i)), (2, .ref (am 0)), (1, .ref (a 0)), (0, .ref b)]) : W p l e room_1 s m #[Value.ref b] below meth c H locs 244 3174 Q (F0 m 640 ls []) := by
  obtain ⟨S, hK, hZ, hX, hbl, ⟨hI, hm⟩, hea, hma, hdis, hL⟩ := C0
  have hx := S.1
  have hb := S.2.1
  have hown := S.2.2.2.1
  have hts := S.2.2.2.2
  have hbA : ¬ (fun q : Nat => s.heap.size ≤ q) b := Nat.not_le.mpr hbl
  obtain ⟨σ, pa, sl, sv, pd, kn, ln, τ, ss, hh, pr, pd2, fr, su, hM, hE, hR⟩ := hW
  refine lv_aload_n hx hb dL_law_640 rfl (lv_at hl 2 rfl) ?_
  refine lv_aload_n hx hb dL_law_641 rfl (lv_at hl 3 rfl) ?_
  refine lv_iload_n hx hb dL_law_642 rfl (lv_at hl 0 rfl) ?_
  refine x_iconst hx hb dL_law_643 ?_
  refine x_iadd hx hb dL_law_644 ?_
  refine l_arg hx hb hX hbl hbA hS (i := i + 1) (by omega) hL dL_law_645 ?_
  refine lv_i2l hx hb dL_law_646 rfl ?_
  refine x_bipush hx hb dL_law_647 (by decide +kernel) ?_
  refine lv_lshl hx hb dL_law_649 rfl ?_
  refine lv_aload_n hx hb dL_law_650 rfl (lv_at hl 3 rfl) ?_
  refine lv_iload_n hx hb dL_law_651 rfl (lv_at hl 0 rfl) ?_
  refine x_iconst hx hb dL_law_652 ?_
  refine x_iadd hx hb dL_law_653 ?_
  refine l_arg hx hb hX hbl hbA hS (i := i + 2) (by omega) hL dL_law_654 ?_
  refine lv_i2l hx hb dL_law_655 rfl ?_
  refine lv_ldc2 hx hb hown (hts (.constantLong RL 94 (4294967295)) (by decide +kernel)) dL_law_656 ?_
  refine lv_land hx hb dL_law_659 ?_
  refine lv_lor hx hb dL_law_660 ?_
  refine lv_topl (fun w ew => ?_)
  obtain ⟨w0, hw0, rfl⟩ : ∃ z : Int, (-9223372036854775808 ≤ z ∧ z < 9223372036854775808) ∧ w = zL z := ⟨w.toInt, zL_rng w, (zL_of w).symm⟩
  obtain ⟨x, σ1, pa1, sl1, sv1, pd1, kn1, ln1, τ1, ss1, hh1, pr1, pd21, ln21, fr1, kp1, su1, h1, h2, h3⟩ := pr_put (l := l) (D := D) (cs := cs) (Nz := s.heap.size) (a := a) (am := am) (pr := pr) hR hI hm hea hN hw0
  refine x_callVMz (As := [.long (zL w0)]) (rest := []) S hK (kZ.keptS hZ hS (fun q h => h)) h1 (cwV 1 hts gL_law_X6_put rfl rfl rfl (by decide +kernel) ⟨(Nat.le_of_ble_eq_true rfl), (Nat.le_of_ble_eq_true rfl)⟩) (x_rc hK (eAt_0 hE) rfl) hE rfl hl.1 (Nat.le_of_ble_eq_true rfl) dL_law_661 ⟨(Nat.le_of_ble_eq_true rfl), (Nat.le_of_ble_eq_true rfl)⟩ hS hea (fun H locs hE hF hS => ?_)
  have hM : mAt D cs am σ pa sl sv pd kn ln H := bAt_F hM hF (fun j p q z => by
    obtain ⟨i2, p2, q2, z2⟩ := z
    exact hdis i2 j p2 q2 p q z2.symm)
  refine lv_aload_n hx hb dL_law_664 rfl (lv_at hl 1 rfl) ?_
  refine lv_aload_n hx hb dL_law_665 rfl (lv_at hl 3 rfl) ?_
  refine lv_iload_n hx hb dL_law_666 rfl (lv_at hl 0 rfl) ?_
  refine x_iconst hx hb dL_law_667 ?_
  refine x_iadd hx hb dL_law_668 ?_
  refine l_arg hx hb hX hbl hbA hS (i := i + 1) (by omega) hL dL_law_669 ?_
  refine lv_i2l hx hb dL_law_670 rfl ?_
  refine x_bipush hx hb dL_law_671 (by decide +kernel) ?_
  refine lv_lshl hx hb dL_law_673 rfl ?_
  refine lv_aload_n hx hb dL_law_674 rfl (lv_at hl 3 rfl) ?_
  refine lv_iload_n hx hb dL_law_675 rfl (lv_at hl 0 rfl) ?_
  refine x_iconst hx hb dL_law_676 ?_
  refine x_iadd hx hb dL_law_677 ?_
  refine l_arg hx hb hX hbl hbA hS (i := i + 2) (by omega) hL dL_law_678 ?_
  refine lv_i2l hx hb dL_law_679 rfl ?_
  refine lv_ldc2 hx hb hown (hts (.constantLong RL 94 (4294967295)) (by decide +kernel)) dL_law_680 ?_
  refine lv_land hx hb dL_law_683 ?_
  refine lv_lor hx hb dL_law_684 ?_
  rw [← ew]
  refine x_callVM (As := [.long (zL w0)]) (rest := [.int (zI x)]) S hK h2 (cwV 1 hts gL_law_X7_put rfl rfl rfl (by decide +kernel) ⟨(Nat.le_of_ble_eq_true rfl), (Nat.le_of_ble_eq_true rfl)⟩) (x_rc hK (mAt_0 hM) rfl) hM rfl hl.1 (Nat.le_of_ble_eq_true rfl) dL_law_685 ⟨(Nat.le_of_ble_eq_true rfl), (Nat.le_of_ble_eq_true rfl)⟩ hS hma (fun H locs hM hF hS => ?_)
  have hE : eAt D cs a τ1 ss1 hh1 pr1 pd21 ln21 fr1 kp1 su1 H := bAt_F hE hF (fun j p q z => by
    obtain ⟨i2, p2, q2, z2⟩ := z
    exact hdis j i2 p q p2 q2 z2)
  refine lv_icmp_eq (tgt := 791) hx hb dL_law_688 (by decide) (fun _ => ?_) (fun z => absurd rfl z)
  exact nx H locs (LW_mk hM hE h3) hS
set_option maxHeartbeats 4000000 in
set_option maxRecDepth 100000 in
theorem law_wipe (C0 : LC p l s m meth c b L xs D cs a am) (hN : 0 ≤ N ∧ N ≤ 900000) {i : Int} (hi : 0 ≤ i ∧ i + 3 < L) (nx : ∀ (H : Heap) (locs : List Loc), LW D cs a am (N + 100) H → va_S (fun q : Nat => s.heap.size ≤ q) s.heap H locs → W p l e room_1 s m #[Value.ref b] below meth c H locs 244 3174 Q (F0 m 791 ls [])) (hW : LW D cs a am N H) (hS : va_S (fun q : Nat => s.heap.size ≤ q) s.heap H locs) (hl : lv_has ls 4 [(3, .int (zI i)), (2, .ref (am 0)), (1, .ref (a 0)), (0, .ref b)]) : W p l e room_1 s m #[Value.ref b] below meth c H locs 244 3174 Q (F0 m 693 ls []) := by
  obtain ⟨S, hK, hZ, hX, hbl, ⟨hI, hm⟩, hea, hma, hdis, hL⟩ := C0
  have hx := S.1
  have hb := S.2.1
  have hown := S.2.2.2.1
  have hts := S.2.2.2.2
  have hbA : ¬ (fun q : Nat => s.heap.size ≤ q) b := Nat.not_le.mpr hbl
  obtain ⟨σ, pa, sl, sv, pd, kn, ln, τ, ss, hh, pr, pd2, fr, su, hM, hE, hR⟩ := hW
  refine lv_aload_n hx hb dL_law_693 rfl (lv_at hl 2 rfl) ?_
  obtain ⟨x, σ1, pa1, sl1, sv1, pd1, kn1, ln1, τ1, ss1, hh1, pr1, pd21, ln21, fr1, kp1, su1, h1, h2, h3⟩ := pr_wipe (l := l) (D := D) (cs := cs) (Nz := s.heap.size) (a := a) (am := am) (pr := pr) hR hI hm hea hN 
  refine x_callVMz (As := []) (rest := []) S hK (kZ.keptS hZ hS (fun q h => h)) h1 (cwV 0 hts gL_law_X6_wipe rfl rfl rfl (by decide +kernel) ⟨(Nat.le_of_ble_eq_true rfl), (Nat.le_of_ble_eq_true rfl)⟩) (x_rc hK (eAt_0 hE) rfl) hE rfl hl.1 (Nat.le_of_ble_eq_true rfl) dL_law_694 ⟨(Nat.le_of_ble_eq_true rfl), (Nat.le_of_ble_eq_true rfl)⟩ hS hea (fun H locs hE hF hS => ?_)
  have hM : mAt D cs am σ pa sl sv pd kn ln H := bAt_F hM hF (fun j p q z => by
    obtain ⟨i2, p2, q2, z2⟩ := z
    exact hdis i2 j p2 q2 p q z2.symm)
  refine lv_aload_n hx hb dL_law_697 rfl (lv_at hl 1 rfl) ?_
  refine x_callVM (As := []) (rest := [.int (zI x)]) S hK h2 (cwV 0 hts gL_law_X7_wipe rfl rfl rfl (by decide +kernel) ⟨(Nat.le_of_ble_eq_true rfl), (Nat.le_of_ble_eq_true rfl)⟩) (x_rc hK (mAt_0 hM) rfl) hM rfl hl.1 (Nat.le_of_ble_eq_true rfl) dL_law_698 ⟨(Nat.le_of_ble_eq_true rfl), (Nat.le_of_ble_eq_true rfl)⟩ hS hma (fun H locs hM hF hS => ?_)
  have hE : eAt D cs a τ1 ss1 hh1 pr1 pd21 ln21 fr1 kp1 su1 H := bAt_F hE hF (fun j p q z => by
    obtain ⟨i2, p2, q2, z2⟩ := z
    exact hdis j i2 p q p2 q2 z2)
  refine lv_icmp_eq (tgt := 791) hx hb dL_law_701 (by decide) (fun _ => ?_) (fun z => absurd rfl z)
  exact nx H locs (LW_mk hM hE h3) hS
set_option maxHeartbeats 4000000 in
set_option maxRecDepth 100000 in
theorem law_fault (C0 : LC p l s m meth c b L xs D cs a am) (hN : 0 ≤ N ∧ N ≤ 900000) {i : Int} (hi : 0 ≤ i ∧ i + 3 < L) (nx : ∀ (H : Heap) (locs : List Loc), LW D cs a am (N + 100) H → va_S (fun q : Nat => s.heap.size ≤ q) s.heap H locs → W p l e room_1 s m #[Value.ref b] below meth c H locs 244 3174 Q (F0 m 791 ls [])) (hW : LW D cs a am N H) (hS : va_S (fun q : Nat => s.heap.size ≤ q) s.heap H locs) (hl : lv_has ls 4 [(3, .int (zI i)), (2, .ref (am 0)), (1, .ref (a 0)), (0, .ref b)]) : W p l e room_1 s m #[Value.ref b] below meth c H locs 244 3174 Q (F0 m 706 ls []) := by
  obtain ⟨S, hK, hZ, hX, hbl, ⟨hI, hm⟩, hea, hma, hdis, hL⟩ := C0
  have hx := S.1
  have hb := S.2.1
  have hown := S.2.2.2.1
  have hts := S.2.2.2.2
  have hbA : ¬ (fun q : Nat => s.heap.size ≤ q) b := Nat.not_le.mpr hbl
  obtain ⟨σ, pa, sl, sv, pd, kn, ln, τ, ss, hh, pr, pd2, fr, su, hM, hE, hR⟩ := hW
  refine lv_aload_n hx hb dL_law_706 rfl (lv_at hl 2 rfl) ?_
  obtain ⟨x, σ1, pa1, sl1, sv1, pd1, kn1, ln1, τ1, ss1, hh1, pr1, pd21, ln21, fr1, kp1, su1, h1, h2, h3⟩ := pr_fault (l := l) (D := D) (cs := cs) (Nz := s.heap.size) (a := a) (am := am) (pr := pr) hR hI hm hea hN 
  refine x_callVMz (As := []) (rest := []) S hK (kZ.keptS hZ hS (fun q h => h)) h1 (cwV 0 hts gL_law_X6_fault rfl rfl rfl (by decide +kernel) ⟨(Nat.le_of_ble_eq_true rfl), (Nat.le_of_ble_eq_true rfl)⟩) (x_rc hK (eAt_0 hE) rfl) hE rfl hl.1 (Nat.le_of_ble_eq_true rfl) dL_law_707 ⟨(Nat.le_of_ble_eq_true rfl), (Nat.le_of_ble_eq_true rfl)⟩ hS hea (fun H locs hE hF hS => ?_)
  have hM : mAt D cs am σ pa sl sv pd kn ln H := bAt_F hM hF (fun j p q z => by
    obtain ⟨i2, p2, q2, z2⟩ := z
    exact hdis i2 j p2 q2 p q z2.symm)
  refine lv_aload_n hx hb dL_law_710 rfl (lv_at hl 1 rfl) ?_
  refine x_callVM (As := []) (rest := [.int (zI x)]) S hK h2 (cwV 0 hts gL_law_X7_fault rfl rfl rfl (by decide +kernel) ⟨(Nat.le_of_ble_eq_true rfl), (Nat.le_of_ble_eq_true rfl)⟩) (x_rc hK (mAt_0 hM) rfl) hM rfl hl.1 (Nat.le_of_ble_eq_true rfl) dL_law_711 ⟨(Nat.le_of_ble_eq_true rfl), (Nat.le_of_ble_eq_true rfl)⟩ hS hma (fun H locs hM hF hS => ?_)
  have hE : eAt D cs a τ1 ss1 hh1 pr1 pd21 ln21 fr1 kp1 su1 H := bAt_F hE hF (fun j p q z => by
    obtain ⟨i2, p2, q2, z2⟩ := z
    exact hdis j i2 p q p2 q2 z2)
  refine lv_icmp_eq (tgt := 791) hx hb dL_law_714 (by decide) (fun _ => ?_) (fun z => absurd rfl z)
  exact nx H locs (LW_mk hM hE h3) hS
set_option maxHeartbeats 4000000 in
set_option maxRecDepth 100000 in
theorem law_carryOut (C0 : LC p l s m meth c b L xs D cs a am) (hN : 0 ≤ N ∧ N ≤ 900000) {i : Int} (hi : 0 ≤ i ∧ i + 3 < L) (nx : ∀ (H : Heap) (locs : List Loc), LW D cs a am (N + 100) H → va_S (fun q : Nat => s.heap.size ≤ q) s.heap H locs → W p l e room_1 s m #[Value.ref b] below meth c H locs 244 3174 Q (F0 m 791 ls [])) (hW : LW D cs a am N H) (hS : va_S (fun q : Nat => s.heap.size ≤ q) s.heap H locs) (hl : lv_has ls 4 [(3, .int (zI i)), (2, .ref (am 0)), (1, .ref (a 0)), (0, .ref b)]) : W p l e room_1 s m #[Value.ref b] below meth c H locs 244 3174 Q (F0 m 719 ls []) := by
  obtain ⟨S, hK, hZ, hX, hbl, ⟨hI, hm⟩, hea, hma, hdis, hL⟩ := C0
  have hx := S.1
  have hb := S.2.1
  have hown := S.2.2.2.1
  have hts := S.2.2.2.2
  have hbA : ¬ (fun q : Nat => s.heap.size ≤ q) b := Nat.not_le.mpr hbl
  obtain ⟨σ, pa, sl, sv, pd, kn, ln, τ, ss, hh, pr, pd2, fr, su, hM, hE, hR⟩ := hW
  refine lv_aload_n hx hb dL_law_719 rfl (lv_at hl 2 rfl) ?_
  obtain ⟨x, σ1, pa1, sl1, sv1, pd1, kn1, ln1, τ1, ss1, hh1, pr1, pd21, ln21, fr1, kp1, su1, h1, h2, h3⟩ := pr_carryOut (l := l) (D := D) (cs := cs) (Nz := s.heap.size) (a := a) (am := am) (pr := pr) hR hI hm hea hN 
  refine x_callVMz (As := []) (rest := []) S hK (kZ.keptS hZ hS (fun q h => h)) h1 (cwV 0 hts gL_law_X6_carryOut rfl rfl rfl (by decide +kernel) ⟨(Nat.le_of_ble_eq_true rfl), (Nat.le_of_ble_eq_true rfl)⟩) (x_rc hK (eAt_0 hE) rfl) hE rfl hl.1 (Nat.le_of_ble_eq_true rfl) dL_law_720 ⟨(Nat.le_of_ble_eq_true rfl), (Nat.le_of_ble_eq_true rfl)⟩ hS hea (fun H locs hE hF hS => ?_)
  have hM : mAt D cs am σ pa sl sv pd kn ln H := bAt_F hM hF (fun j p q z => by
    obtain ⟨i2, p2, q2, z2⟩ := z
    exact hdis i2 j p2 q2 p q z2.symm)
  refine lv_aload_n hx hb dL_law_723 rfl (lv_at hl 1 rfl) ?_
  refine x_callVM (As := []) (rest := [.int (zI x)]) S hK h2 (cwV 0 hts gL_law_X7_carryOut rfl rfl rfl (by decide +kernel) ⟨(Nat.le_of_ble_eq_true rfl), (Nat.le_of_ble_eq_true rfl)⟩) (x_rc hK (mAt_0 hM) rfl) hM rfl hl.1 (Nat.le_of_ble_eq_true rfl) dL_law_724 ⟨(Nat.le_of_ble_eq_true rfl), (Nat.le_of_ble_eq_true rfl)⟩ hS hma (fun H locs hM hF hS => ?_)
  have hE : eAt D cs a τ1 ss1 hh1 pr1 pd21 ln21 fr1 kp1 su1 H := bAt_F hE hF (fun j p q z => by
    obtain ⟨i2, p2, q2, z2⟩ := z
    exact hdis j i2 p q p2 q2 z2)
  refine lv_icmp_eq (tgt := 791) hx hb dL_law_727 (by decide) (fun _ => ?_) (fun z => absurd rfl z)
  exact nx H locs (LW_mk hM hE h3) hS
set_option maxHeartbeats 4000000 in
set_option maxRecDepth 100000 in
theorem law_undo (C0 : LC p l s m meth c b L xs D cs a am) (hN : 0 ≤ N ∧ N ≤ 900000) {i : Int} (hi : 0 ≤ i ∧ i + 3 < L) (nx : ∀ (H : Heap) (locs : List Loc), LW D cs a am (N + 100) H → va_S (fun q : Nat => s.heap.size ≤ q) s.heap H locs → W p l e room_1 s m #[Value.ref b] below meth c H locs 244 3174 Q (F0 m 791 ls [])) (hW : LW D cs a am N H) (hS : va_S (fun q : Nat => s.heap.size ≤ q) s.heap H locs) (hl : lv_has ls 4 [(3, .int (zI i)), (2, .ref (am 0)), (1, .ref (a 0)), (0, .ref b)]) : W p l e room_1 s m #[Value.ref b] below meth c H locs 244 3174 Q (F0 m 732 ls []) := by
  obtain ⟨S, hK, hZ, hX, hbl, ⟨hI, hm⟩, hea, hma, hdis, hL⟩ := C0
  have hx := S.1
  have hb := S.2.1
  have hown := S.2.2.2.1
  have hts := S.2.2.2.2
  have hbA : ¬ (fun q : Nat => s.heap.size ≤ q) b := Nat.not_le.mpr hbl
  obtain ⟨σ, pa, sl, sv, pd, kn, ln, τ, ss, hh, pr, pd2, fr, su, hM, hE, hR⟩ := hW
  refine lv_aload_n hx hb dL_law_732 rfl (lv_at hl 2 rfl) ?_
  obtain ⟨x, σ1, pa1, sl1, sv1, pd1, kn1, ln1, τ1, ss1, hh1, pr1, pd21, ln21, fr1, kp1, su1, h1, h2, h3⟩ := pr_undo (l := l) (D := D) (cs := cs) (Nz := s.heap.size) (a := a) (am := am) (pr := pr) hR hI hm hea hN 
  refine x_callVMz (As := []) (rest := []) S hK (kZ.keptS hZ hS (fun q h => h)) h1 (cwV 0 hts gL_law_X6_undo rfl rfl rfl (by decide +kernel) ⟨(Nat.le_of_ble_eq_true rfl), (Nat.le_of_ble_eq_true rfl)⟩) (x_rc hK (eAt_0 hE) rfl) hE rfl hl.1 (Nat.le_of_ble_eq_true rfl) dL_law_733 ⟨(Nat.le_of_ble_eq_true rfl), (Nat.le_of_ble_eq_true rfl)⟩ hS hea (fun H locs hE hF hS => ?_)
  have hM : mAt D cs am σ pa sl sv pd kn ln H := bAt_F hM hF (fun j p q z => by
    obtain ⟨i2, p2, q2, z2⟩ := z
    exact hdis i2 j p2 q2 p q z2.symm)
  refine lv_aload_n hx hb dL_law_736 rfl (lv_at hl 1 rfl) ?_
  refine x_callVM (As := []) (rest := [.int (zI x)]) S hK h2 (cwV 0 hts gL_law_X7_undo rfl rfl rfl (by decide +kernel) ⟨(Nat.le_of_ble_eq_true rfl), (Nat.le_of_ble_eq_true rfl)⟩) (x_rc hK (mAt_0 hM) rfl) hM rfl hl.1 (Nat.le_of_ble_eq_true rfl) dL_law_737 ⟨(Nat.le_of_ble_eq_true rfl), (Nat.le_of_ble_eq_true rfl)⟩ hS hma (fun H locs hM hF hS => ?_)
  have hE : eAt D cs a τ1 ss1 hh1 pr1 pd21 ln21 fr1 kp1 su1 H := bAt_F hE hF (fun j p q z => by
    obtain ⟨i2, p2, q2, z2⟩ := z
    exact hdis j i2 p q p2 q2 z2)
  refine lv_icmp_eq (tgt := 791) hx hb dL_law_740 (by decide) (fun _ => ?_) (fun z => absurd rfl z)
  exact nx H locs (LW_mk hM hE h3) hS
set_option maxHeartbeats 4000000 in
set_option maxRecDepth 100000 in
theorem law_save (C0 : LC p l s m meth c b L xs D cs a am) (hN : 0 ≤ N ∧ N ≤ 900000) {i : Int} (hi : 0 ≤ i ∧ i + 3 < L) (nx : ∀ (H : Heap) (locs : List Loc), LW D cs a am (N + 100) H → va_S (fun q : Nat => s.heap.size ≤ q) s.heap H locs → W p l e room_1 s m #[Value.ref b] below meth c H locs 244 3174 Q (F0 m 791 ls [])) (hW : LW D cs a am N H) (hS : va_S (fun q : Nat => s.heap.size ≤ q) s.heap H locs) (hl : lv_has ls 4 [(3, .int (zI i)), (2, .ref (am 0)), (1, .ref (a 0)), (0, .ref b)]) : W p l e room_1 s m #[Value.ref b] below meth c H locs 244 3174 Q (F0 m 745 ls []) := by
  obtain ⟨S, hK, hZ, hX, hbl, ⟨hI, hm⟩, hea, hma, hdis, hL⟩ := C0
  have hx := S.1
  have hb := S.2.1
  have hown := S.2.2.2.1
  have hts := S.2.2.2.2
  have hbA : ¬ (fun q : Nat => s.heap.size ≤ q) b := Nat.not_le.mpr hbl
  obtain ⟨σ, pa, sl, sv, pd, kn, ln, τ, ss, hh, pr, pd2, fr, su, hM, hE, hR⟩ := hW
  refine lv_aload_n hx hb dL_law_745 rfl (lv_at hl 2 rfl) ?_
  refine lv_aload_n hx hb dL_law_746 rfl (lv_at hl 3 rfl) ?_
  refine lv_iload_n hx hb dL_law_747 rfl (lv_at hl 0 rfl) ?_
  refine x_iconst hx hb dL_law_748 ?_
  refine x_iadd hx hb dL_law_749 ?_
  refine l_arg hx hb hX hbl hbA hS (i := i + 1) (by omega) hL dL_law_750 ?_
  obtain ⟨x, σ1, pa1, sl1, sv1, pd1, kn1, ln1, τ1, ss1, hh1, pr1, pd21, ln21, fr1, kp1, su1, h1, h2, h3⟩ := pr_save (l := l) (D := D) (cs := cs) (Nz := s.heap.size) (a := a) (am := am) (pr := pr) hR hI hm hea hN (zI_rng _)
  refine x_callVMz (As := [.int (zI (sx xs (i + 1)))]) (rest := []) S hK (kZ.keptS hZ hS (fun q h => h)) h1 (cwV 1 hts gL_law_X6_save rfl rfl rfl (by decide +kernel) ⟨(Nat.le_of_ble_eq_true rfl), (Nat.le_of_ble_eq_true rfl)⟩) (x_rc hK (eAt_0 hE) rfl) hE rfl hl.1 (Nat.le_of_ble_eq_true rfl) dL_law_751 ⟨(Nat.le_of_ble_eq_true rfl), (Nat.le_of_ble_eq_true rfl)⟩ hS hea (fun H locs hE hF hS => ?_)
  have hM : mAt D cs am σ pa sl sv pd kn ln H := bAt_F hM hF (fun j p q z => by
    obtain ⟨i2, p2, q2, z2⟩ := z
    exact hdis i2 j p2 q2 p q z2.symm)
  refine lv_aload_n hx hb dL_law_754 rfl (lv_at hl 1 rfl) ?_
  refine lv_aload_n hx hb dL_law_755 rfl (lv_at hl 3 rfl) ?_
  refine lv_iload_n hx hb dL_law_756 rfl (lv_at hl 0 rfl) ?_
  refine x_iconst hx hb dL_law_757 ?_
  refine x_iadd hx hb dL_law_758 ?_
  refine l_arg hx hb hX hbl hbA hS (i := i + 1) (by omega) hL dL_law_759 ?_
  refine x_callVM (As := [.int (zI (sx xs (i + 1)))]) (rest := [.int (zI x)]) S hK h2 (cwV 1 hts gL_law_X7_save rfl rfl rfl (by decide +kernel) ⟨(Nat.le_of_ble_eq_true rfl), (Nat.le_of_ble_eq_true rfl)⟩) (x_rc hK (mAt_0 hM) rfl) hM rfl hl.1 (Nat.le_of_ble_eq_true rfl) dL_law_760 ⟨(Nat.le_of_ble_eq_true rfl), (Nat.le_of_ble_eq_true rfl)⟩ hS hma (fun H locs hM hF hS => ?_)
  have hE : eAt D cs a τ1 ss1 hh1 pr1 pd21 ln21 fr1 kp1 su1 H := bAt_F hE hF (fun j p q z => by
    obtain ⟨i2, p2, q2, z2⟩ := z
    exact hdis j i2 p q p2 q2 z2)
  refine lv_icmp_eq (tgt := 791) hx hb dL_law_763 (by decide) (fun _ => ?_) (fun z => absurd rfl z)
  exact nx H locs (LW_mk hM hE h3) hS
set_option maxHeartbeats 4000000 in
set_option maxRecDepth 100000 in
theorem law_restore (C0 : LC p l s m meth c b L xs D cs a am) (hN : 0 ≤ N ∧ N ≤ 900000) {i : Int} (hi : 0 ≤ i ∧ i + 3 < L) (nx : ∀ (H : Heap) (locs : List Loc), LW D cs a am (N + 100) H → va_S (fun q : Nat => s.heap.size ≤ q) s.heap H locs → W p l e room_1 s m #[Value.ref b] below meth c H locs 244 3174 Q (F0 m 791 ls [])) (hW : LW D cs a am N H) (hS : va_S (fun q : Nat => s.heap.size ≤ q) s.heap H locs) (hl : lv_has ls 4 [(3, .int (zI i)), (2, .ref (am 0)), (1, .ref (a 0)), (0, .ref b)]) : W p l e room_1 s m #[Value.ref b] below meth c H locs 244 3174 Q (F0 m 768 ls []) := by
  obtain ⟨S, hK, hZ, hX, hbl, ⟨hI, hm⟩, hea, hma, hdis, hL⟩ := C0
  have hx := S.1
  have hb := S.2.1
  have hown := S.2.2.2.1
  have hts := S.2.2.2.2
  have hbA : ¬ (fun q : Nat => s.heap.size ≤ q) b := Nat.not_le.mpr hbl
  obtain ⟨σ, pa, sl, sv, pd, kn, ln, τ, ss, hh, pr, pd2, fr, su, hM, hE, hR⟩ := hW
  refine lv_aload_n hx hb dL_law_768 rfl (lv_at hl 2 rfl) ?_
  refine lv_aload_n hx hb dL_law_769 rfl (lv_at hl 3 rfl) ?_
  refine lv_iload_n hx hb dL_law_770 rfl (lv_at hl 0 rfl) ?_
  refine x_iconst hx hb dL_law_771 ?_
  refine x_iadd hx hb dL_law_772 ?_
  refine l_arg hx hb hX hbl hbA hS (i := i + 1) (by omega) hL dL_law_773 ?_
  obtain ⟨x, σ1, pa1, sl1, sv1, pd1, kn1, ln1, τ1, ss1, hh1, pr1, pd21, ln21, fr1, kp1, su1, h1, h2, h3⟩ := pr_restore (l := l) (D := D) (cs := cs) (Nz := s.heap.size) (a := a) (am := am) (pr := pr) hR hI hm hea hN (zI_rng _)
  refine x_callVMz (As := [.int (zI (sx xs (i + 1)))]) (rest := []) S hK (kZ.keptS hZ hS (fun q h => h)) h1 (cwV 1 hts gL_law_X6_restore rfl rfl rfl (by decide +kernel) ⟨(Nat.le_of_ble_eq_true rfl), (Nat.le_of_ble_eq_true rfl)⟩) (x_rc hK (eAt_0 hE) rfl) hE rfl hl.1 (Nat.le_of_ble_eq_true rfl) dL_law_774 ⟨(Nat.le_of_ble_eq_true rfl), (Nat.le_of_ble_eq_true rfl)⟩ hS hea (fun H locs hE hF hS => ?_)
  have hM : mAt D cs am σ pa sl sv pd kn ln H := bAt_F hM hF (fun j p q z => by
    obtain ⟨i2, p2, q2, z2⟩ := z
    exact hdis i2 j p2 q2 p q z2.symm)
  refine lv_aload_n hx hb dL_law_777 rfl (lv_at hl 1 rfl) ?_
  refine lv_aload_n hx hb dL_law_778 rfl (lv_at hl 3 rfl) ?_
  refine lv_iload_n hx hb dL_law_779 rfl (lv_at hl 0 rfl) ?_
  refine x_iconst hx hb dL_law_780 ?_
  refine x_iadd hx hb dL_law_781 ?_
  refine l_arg hx hb hX hbl hbA hS (i := i + 1) (by omega) hL dL_law_782 ?_
  refine x_callVM (As := [.int (zI (sx xs (i + 1)))]) (rest := [.int (zI x)]) S hK h2 (cwV 1 hts gL_law_X7_restore rfl rfl rfl (by decide +kernel) ⟨(Nat.le_of_ble_eq_true rfl), (Nat.le_of_ble_eq_true rfl)⟩) (x_rc hK (mAt_0 hM) rfl) hM rfl hl.1 (Nat.le_of_ble_eq_true rfl) dL_law_783 ⟨(Nat.le_of_ble_eq_true rfl), (Nat.le_of_ble_eq_true rfl)⟩ hS hma (fun H locs hM hF hS => ?_)
  have hE : eAt D cs a τ1 ss1 hh1 pr1 pd21 ln21 fr1 kp1 su1 H := bAt_F hE hF (fun j p q z => by
    obtain ⟨i2, p2, q2, z2⟩ := z
    exact hdis j i2 p q p2 q2 z2)
  refine lv_icmp_eq (tgt := 791) hx hb dL_law_786 (by decide) (fun _ => ?_) (fun z => absurd rfl z)
  exact nx H locs (LW_mk hM hE h3) hS
end LA
