set_option maxHeartbeats 4000000 in
set_option maxRecDepth 100000 in
theorem c_X1_prepare (l : Launch) (D : va_G) (cs : Nat → ClassId) (a : Int → Nat) (τ : Int → Int) (ss : Int → Int → Int) (hh : Int → Int → Int) (pr : Int → Int) (pd : Int → Int) (ln : Int) (fr : Int) (kp : Int) (su : Int → Int) (hI : eI a) (hfr : 0 ≤ fr ∧ fr < 7) (hg : gOK τ 0) : kM D cs l yX1_prepare wsX1_prepare ({ frames := 2, cells := 0, slots := 0, locals := 43 } : Room) [.ref (a 4), .ref (ehs a 0 0)] (fun H => eAt D cs a τ ss hh pr pd ln fr kp su H) none (fun H => eAt D cs a τ ss (upH hh fr (cpH (hh fr) τ)) pr pd ln fr kp su H) (eC a) := by
  refine Met.ofW (cc := cX1_prepare) (maxL := 2) (ret := none) (by decide) rfl ?_
  intro p e s m args below meth c s₁ B hml hv
  obtain ⟨rfl, hK, hE⟩ := hv
  have hx := B.exec
  have hb := B.bytes
  have hr := B.returns
  have hts := atoms_spec (ws := wsX1_prepare) B.pre
  have hown : s.vm.findClass RX1 = some m.cls := findClass_of_methodNamed B.named
  have hlocks := B.notSynchronized
  have S : CallFix p m c cX1_prepare 2 s (([.ref (a 4), .ref (ehs a 0 0)] : List Value)).toArray wsX1_prepare RX1 := ⟨hx, hb, hml, hown, hts⟩
  have hin1 : ∀ w ∈ wsX10, w ∈ wsX1_prepare := by decide +kernel
  have hS : va_S (eC a) s.heap s.heap [] := va_S.rf
  have hl := lv_entry ([.ref (a 4), .ref (ehs a 0 0)]) (n := 2) (Nat.le_of_ble_eq_true rfl)
  rw [lg_entry_eq]
  generalize (lg_sl ([.ref (a 4), .ref (ehs a 0 0)]) ++ List.replicate (2 - (lg_sl ([.ref (a 4), .ref (ehs a 0 0)])).length) Slot.unset).toArray = ls at hl ⊢
  have hl : lv_has ls 2 [(0, .ref (a 4)), (1, .ref (ehs a 0 0))] := hl
  refine lv_aload_n hx hb dX1_prepare_0 rfl (lv_at hl 0 rfl) ?_
  refine e_g_states S hin1 hK hE (hts (.fieldLink RX1 13 "EnergyDiscs$History" "states" "[LEnergyDiscs$House;") (by decide +kernel)) dX1_prepare_1 ?_
  refine lv_aload_n hx hb dX1_prepare_4 rfl (lv_at hl 0 rfl) ?_
  refine e_g_free S hin1 hK hE (hts (.fieldLink RX1 18 "EnergyDiscs$History" "free" "I") (by decide +kernel)) dX1_prepare_5 ?_
  refine e_l_states S hK hE (by omega) dX1_prepare_8 ?_
  refine lv_aload_n hx hb dX1_prepare_9 rfl (lv_at hl 1 rfl) ?_
  refine x_callVMn (As := [.ref (ehs a 0 0)]) (rest := []) S hK (c_X2_copyFrom l D cs (ehs a (3 + fr)) (hh fr) (ehs a 0) τ (by exact eI_H hI (by omega)) (by exact eI_dis hI (by omega) (by omega) (by omega)) (by exact hg)) (cwV 1 hts gX1_prepare_X2_copyFrom rfl rfl rfl (by decide +kernel) ⟨(Nat.le_of_ble_eq_true rfl), (Nat.le_of_ble_eq_true rfl)⟩) (x_rc hK (hsAt_0 (hAt_hs (eAt_I hE (k := fr) (by omega)))) rfl) ⟨(eAt_I hE (k := fr) (by omega)), (eAt_H hE)⟩ rfl hl.1 (Nat.le_of_ble_eq_true rfl) dX1_prepare_10 ⟨Nat.zero_le _, Nat.zero_le _⟩ hS (eC_H (by omega)) (fun H locs hB hF hS => ?_)
  have hE : eAt D cs a τ ss (upH hh fr (cpH (hh fr) τ)) pr pd ln fr kp su H := eAt_setI hE hI (by omega) hB.1 hF
  exact x_vretM hx hb hr hlocks hE hS dX1_prepare_13
set_option maxHeartbeats 4000000 in
set_option maxRecDepth 100000 in
theorem c_X1_settle_bad (l : Launch) (D : va_G) (cs : Nat → ClassId) (a : Int → Nat) (τ : Int → Int) (ss : Int → Int → Int) (hh : Int → Int → Int) (pr : Int → Int) (pd : Int → Int) (ln : Int) (fr : Int) (kp : Int) (su : Int → Int) (k : Int) (hk : -2147483648 ≤ k ∧ k < 2147483648) (hn : k < 0) : kR D cs l yX1_settle wsX1_settle ({ frames := 1, cells := 0, slots := 0, locals := 21 } : Room) [.ref (a 4), .int (zI k)] (fun H => eAt D cs a τ ss hh pr pd ln fr kp su H) (some (.int (zI k))) := by
  refine Met.ofW (cc := cX1_settle) (maxL := 2) (ret := (some .int)) (by decide) rfl ?_
  intro p e s m args below meth c s₁ B hml hv
  obtain ⟨rfl, hK, hE⟩ := hv
  have hx := B.exec
  have hb := B.bytes
  have hr := B.returns
  have hts := atoms_spec (ws := wsX1_settle) B.pre
  have hown : s.vm.findClass RX1 = some m.cls := findClass_of_methodNamed B.named
  have hlocks := B.notSynchronized
  have S : CallFix p m c cX1_settle 2 s (([.ref (a 4), .int (zI k)] : List Value)).toArray wsX1_settle RX1 := ⟨hx, hb, hml, hown, hts⟩
  have hin1 : ∀ w ∈ wsX10, w ∈ wsX1_settle := by decide +kernel
  have hl := lv_entry ([.ref (a 4), .int (zI k)]) (n := 2) (Nat.le_of_ble_eq_true rfl)
  rw [lg_entry_eq]
  generalize (lg_sl ([.ref (a 4), .int (zI k)]) ++ List.replicate (2 - (lg_sl ([.ref (a 4), .int (zI k)])).length) Slot.unset).toArray = ls at hl ⊢
  have hl : lv_has ls 2 [(0, .ref (a 4)), (1, .int (zI k))] := hl
  refine lv_iload_n hx hb dX1_settle_0 rfl (lv_at hl 1 rfl) ?_
  refine x_if_lt (tgt := 32) hx hb dX1_settle_1 (by decide) (by omega) (fun c_1 => ?_) (fun c_1 => ?_)
  · refine lv_iload_n hx hb dX1_settle_32 rfl (lv_at hl 1 rfl) ?_
    exact x_iretR hx hb hr hlocks (by first | rfl | omega) rfl dX1_settle_33
  · exfalso; omega
set_option maxHeartbeats 4000000 in
set_option maxRecDepth 100000 in
theorem c_X1_settle_ok (l : Launch) (D : va_G) (cs : Nat → ClassId) (a : Int → Nat) (τ : Int → Int) (ss : Int → Int → Int) (hh : Int → Int → Int) (pr : Int → Int) (pd : Int → Int) (ln : Int) (fr : Int) (kp : Int) (su : Int → Int) (k : Int) (hk : -2147483648 ≤ k ∧ k < 2147483648) (hn : 0 ≤ k) (hI : eI a) (hfr : 0 ≤ fr ∧ fr < 7) (hkp : 0 ≤ kp ∧ kp ≤ 6) : kM D cs l yX1_settle wsX1_settle ({ frames := 1, cells := 0, slots := 0, locals := 21 } : Room) [.ref (a 4), .int (zI k)] (fun H => eAt D cs a τ ss hh pr pd ln fr kp su H) (some (.int (zI k))) (fun H => eAt D cs a τ ss hh pr pd ln ((fr + 1) % 7) (min 6 (kp + 1)) su H) (eC a) := by
  refine Met.ofW (cc := cX1_settle) (maxL := 2) (ret := (some .int)) (by decide) rfl ?_
  intro p e s m args below meth c s₁ B hml hv
  obtain ⟨rfl, hK, hE⟩ := hv
  have hx := B.exec
  have hb := B.bytes
  have hr := B.returns
  have hts := atoms_spec (ws := wsX1_settle) B.pre
  have hown : s.vm.findClass RX1 = some m.cls := findClass_of_methodNamed B.named
  have hlocks := B.notSynchronized
  have S : CallFix p m c cX1_settle 2 s (([.ref (a 4), .int (zI k)] : List Value)).toArray wsX1_settle RX1 := ⟨hx, hb, hml, hown, hts⟩
  have hin1 : ∀ w ∈ wsX10, w ∈ wsX1_settle := by decide +kernel
  have hS : va_S (eC a) s.heap s.heap [] := va_S.rf
  have hl := lv_entry ([.ref (a 4), .int (zI k)]) (n := 2) (Nat.le_of_ble_eq_true rfl)
  rw [lg_entry_eq]
  generalize (lg_sl ([.ref (a 4), .int (zI k)]) ++ List.replicate (2 - (lg_sl ([.ref (a 4), .int (zI k)])).length) Slot.unset).toArray = ls at hl ⊢
  have hl : lv_has ls 2 [(0, .ref (a 4)), (1, .int (zI k))] := hl
  refine lv_iload_n hx hb dX1_settle_0 rfl (lv_at hl 1 rfl) ?_
  refine x_if_lt (tgt := 32) hx hb dX1_settle_1 (by decide) (by omega) (fun c_1 => ?_) (fun c_1 => ?_)
  · exfalso; omega
  · refine lv_aload_n hx hb dX1_settle_4 rfl (lv_at hl 0 rfl) ?_
    refine lv_aload_n hx hb dX1_settle_5 rfl (lv_at hl 0 rfl) ?_
    refine e_g_free S hin1 hK hE (hts (.fieldLink RX1 18 "EnergyDiscs$History" "free" "I") (by decide +kernel)) dX1_settle_6 ?_
    refine x_iconst hx hb dX1_settle_9 ?_
    refine x_iadd hx hb dX1_settle_10 ?_
    refine x_bipush hx hb dX1_settle_11 (by decide +kernel) ?_
    refine x_irem hx hb (by omega) (by omega) dX1_settle_13 ?_
    refine e_p_free S hin1 hK hE hI hS (bC_of (by decide) (by decide)) (hts (.fieldLink RX1 18 "EnergyDiscs$History" "free" "I") (by decide +kernel)) dX1_settle_14 (fun H locs hE hF hS => ?_)
    refine lv_aload_n hx hb dX1_settle_17 rfl (lv_at hl 0 rfl) ?_
    refine x_bipush hx hb dX1_settle_18 (by decide +kernel) ?_
    refine lv_aload_n hx hb dX1_settle_20 rfl (lv_at hl 0 rfl) ?_
    refine e_g_kept S hin1 hK hE (hts (.fieldLink RX1 22 "EnergyDiscs$History" "kept" "I") (by decide +kernel)) dX1_settle_21 ?_
    refine x_iconst hx hb dX1_settle_24 ?_
    refine x_iadd hx hb dX1_settle_25 ?_
    refine x_mmin S (by omega) (by omega) (hts (.methodLink RX1 29 Lib.Math.min.name) (by decide +kernel)) (hts (.static Lib.Math.min.name) (by decide +kernel)) (hts (.initialized "java/lang/Math") (by decide +kernel)) (hts (.code Lib.Math.min.name Lib.Math.min.code 2 (some .int)) (by decide +kernel)) hl.1 (Nat.le_of_ble_eq_true rfl) (Nat.le_of_ble_eq_true rfl) dX1_settle_26 (Nat.zero_le _) (Nat.zero_le _) ?_
    refine e_p_kept S hin1 hK hE hI hS (bC_of (by decide) (by decide)) (hts (.fieldLink RX1 22 "EnergyDiscs$History" "kept" "I") (by decide +kernel)) dX1_settle_29 (fun H locs hE hF hS => ?_)
    refine lv_iload_n hx hb dX1_settle_32 rfl (lv_at hl 1 rfl) ?_
    exact x_iretM hx hb hr hlocks (by first | rfl | omega) hE hS dX1_settle_33
set_option maxHeartbeats 4000000 in
set_option maxRecDepth 100000 in
theorem c_X1_takeLatest (l : Launch) (D : va_G) (cs : Nat → ClassId) (a : Int → Nat) (τ : Int → Int) (ss : Int → Int → Int) (hh : Int → Int → Int) (pr : Int → Int) (pd : Int → Int) (ln : Int) (fr : Int) (kp : Int) (su : Int → Int) (hI : eI a) (hfr : 0 ≤ fr ∧ fr < 7) (hkp : 1 ≤ kp ∧ kp ≤ 6) : kM D cs l yX1_takeLatest wsX1_takeLatest ({ frames := 0, cells := 0, slots := 0, locals := 0 } : Room) [.ref (a 4)] (fun H => eAt D cs a τ ss hh pr pd ln fr kp su H) (some (.ref (ehs a (3 + (fr + 6) % 7) 0))) (fun H => eAt D cs a τ ss hh pr pd ln ((fr + 6) % 7) (kp - 1) su H) (eC a) := by
  refine Met.ofW (cc := cX1_takeLatest) (maxL := 1) (ret := (some (.object "EnergyDiscs$House"))) (by decide) rfl ?_
  intro p e s m args below meth c s₁ B hml hv
  obtain ⟨rfl, hK, hE⟩ := hv
  have hx := B.exec
  have hb := B.bytes
  have hr := B.returns
  have hts := atoms_spec (ws := wsX1_takeLatest) B.pre
  have hown : s.vm.findClass RX1 = some m.cls := findClass_of_methodNamed B.named
  have hlocks := B.notSynchronized
  have S : CallFix p m c cX1_takeLatest 1 s (([.ref (a 4)] : List Value)).toArray wsX1_takeLatest RX1 := ⟨hx, hb, hml, hown, hts⟩
  have hin1 : ∀ w ∈ wsX10, w ∈ wsX1_takeLatest := by decide +kernel
  have hS : va_S (eC a) s.heap s.heap [] := va_S.rf
  have hl := lv_entry ([.ref (a 4)]) (n := 1) (Nat.le_of_ble_eq_true rfl)
  rw [lg_entry_eq]
  generalize (lg_sl ([.ref (a 4)]) ++ List.replicate (1 - (lg_sl ([.ref (a 4)])).length) Slot.unset).toArray = ls at hl ⊢
  have hl : lv_has ls 1 [(0, .ref (a 4))] := hl
  refine lv_aload_n hx hb dX1_takeLatest_0 rfl (lv_at hl 0 rfl) ?_
  refine lv_dup hx hb dX1_takeLatest_1 rfl ?_
  refine e_g_kept S hin1 hK hE (hts (.fieldLink RX1 22 "EnergyDiscs$History" "kept" "I") (by decide +kernel)) dX1_takeLatest_2 ?_
  refine x_iconst hx hb dX1_takeLatest_5 ?_
  refine x_isub hx hb dX1_takeLatest_6 ?_
  refine e_p_kept S hin1 hK hE hI hS (bC_of (by decide) (by decide)) (hts (.fieldLink RX1 22 "EnergyDiscs$History" "kept" "I") (by decide +kernel)) dX1_takeLatest_7 (fun H locs hE hF hS => ?_)
  refine lv_aload_n hx hb dX1_takeLatest_10 rfl (lv_at hl 0 rfl) ?_
  refine lv_aload_n hx hb dX1_takeLatest_11 rfl (lv_at hl 0 rfl) ?_
  refine e_g_free S hin1 hK hE (hts (.fieldLink RX1 18 "EnergyDiscs$History" "free" "I") (by decide +kernel)) dX1_takeLatest_12 ?_
  refine x_bipush hx hb dX1_takeLatest_15 (by decide +kernel) ?_
  refine x_iadd hx hb dX1_takeLatest_17 ?_
  refine x_bipush hx hb dX1_takeLatest_18 (by decide +kernel) ?_
  refine x_irem hx hb (by omega) (by omega) dX1_takeLatest_20 ?_
  refine e_p_free S hin1 hK hE hI hS (bC_of (by decide) (by decide)) (hts (.fieldLink RX1 18 "EnergyDiscs$History" "free" "I") (by decide +kernel)) dX1_takeLatest_21 (fun H locs hE hF hS => ?_)
  refine lv_aload_n hx hb dX1_takeLatest_24 rfl (lv_at hl 0 rfl) ?_
  refine e_g_states S hin1 hK hE (hts (.fieldLink RX1 13 "EnergyDiscs$History" "states" "[LEnergyDiscs$House;") (by decide +kernel)) dX1_takeLatest_25 ?_
  refine lv_aload_n hx hb dX1_takeLatest_28 rfl (lv_at hl 0 rfl) ?_
  refine e_g_free S hin1 hK hE (hts (.fieldLink RX1 18 "EnergyDiscs$History" "free" "I") (by decide +kernel)) dX1_takeLatest_29 ?_
  refine e_l_states S hK hE (by omega) dX1_takeLatest_32 ?_
  exact x_aretM hx hb hr (Or.inl ⟨_, rfl⟩) hlocks (by first | rfl | omega) (Or.inr ⟨_, rfl⟩) hE hS dX1_takeLatest_33
