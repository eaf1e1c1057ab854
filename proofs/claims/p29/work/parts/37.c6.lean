set_option maxHeartbeats 4000000 in
set_option maxRecDepth 100000 in
theorem c_X6_set_bad (l : Launch) (D : va_G) (cs : Nat → ClassId) (a : Int → Nat) (τ : Int → Int) (ss : Int → Int → Int) (hh : Int → Int → Int) (pr : Int → Int) (pd : Int → Int) (ln : Int) (fr : Int) (kp : Int) (su : Int → Int) (k : Int) (v : Int) (N : Nat) (hI : eI a) (hfr : 0 ≤ fr ∧ fr < 7) (hg : gOK τ 0) (hk : -2147483648 ≤ k ∧ k < 2147483648) (hvr : -2147483648 ≤ v ∧ v < 2147483648) (hn : ¬ setOK k v) (hN : ∀ q, eC a q → N ≤ q) : kMz D cs N l yX6_set wsX6_set ({ frames := 3, cells := 0, slots := 0, locals := 64 } : Room) [.ref (a 0), .int (zI k), .int (zI v)] (fun H => eAt D cs a τ ss hh pr pd ln fr kp su H) (some (.int (zI (-2)))) (fun H => eAt D cs a τ ss (upH hh fr (cpH (hh fr) τ)) pr pd ln fr kp su H) (eC a) := by
  refine Met.ofW (cc := cX6_set) (maxL := 3) (ret := (some .int)) (by decide) rfl ?_
  intro p e s m args below meth c s₁ B hml hv
  obtain ⟨rfl, hK, hZ, hE⟩ := hv
  have hx := B.exec
  have hb := B.bytes
  have hr := B.returns
  have hts := atoms_spec (ws := wsX6_set) B.pre
  have hown : s.vm.findClass RX6 = some m.cls := findClass_of_methodNamed B.named
  have hlocks := B.notSynchronized
  have S : CallFix p m c cX6_set 3 s (([.ref (a 0), .int (zI k), .int (zI v)] : List Value)).toArray wsX6_set RX6 := ⟨hx, hb, hml, hown, hts⟩
  have hin6 : ∀ w ∈ wsX60, w ∈ wsX6_set := by decide +kernel
  have hS : va_S (eC a) s.heap s.heap [] := va_S.rf
  obtain ⟨⟨hw0, hw1, hw2⟩, t0, t1, t2, hZ0, hZ1, hZ2⟩ := id hZ
  have hl := lv_entry ([.ref (a 0), .int (zI k), .int (zI v)]) (n := 3) (Nat.le_of_ble_eq_true rfl)
  rw [lg_entry_eq]
  generalize (lg_sl ([.ref (a 0), .int (zI k), .int (zI v)]) ++ List.replicate (3 - (lg_sl ([.ref (a 0), .int (zI k), .int (zI v)])).length) Slot.unset).toArray = ls at hl ⊢
  have hl : lv_has ls 3 [(0, .ref (a 0)), (1, .int (zI k)), (2, .int (zI v))] := hl
  have h7 := hg.1.1
  have h8 := hg.1.2.1
  refine lv_aload_n hx hb dX6_set_0 rfl (lv_at hl 0 rfl) ?_
  refine e_g_history S hin6 hK hE (hts (.fieldLink RX6 33 "EnergyDiscs" "history" "LEnergyDiscs$History;") (by decide +kernel)) dX6_set_1 ?_
  refine lv_aload_n hx hb dX6_set_4 rfl (lv_at hl 0 rfl) ?_
  refine e_g_house S hin6 hK hE (hts (.fieldLink RX6 10 "EnergyDiscs" "house" "LEnergyDiscs$House;") (by decide +kernel)) dX6_set_5 ?_
  refine x_callVMn (As := [.ref (ehs a 0 0)]) (rest := []) S hK (c_X1_prepare l D cs a τ ss hh pr pd ln fr kp su (by first | exact hI | exact eI_H hI (by omega)) (by omega) (by exact hg)) (cwV 1 hts gX6_set_X1_prepare rfl rfl rfl (by decide +kernel) ⟨(Nat.le_of_ble_eq_true rfl), (Nat.le_of_ble_eq_true rfl)⟩) (x_rc hK (eAt_4 hE) rfl) hE rfl hl.1 (Nat.le_of_ble_eq_true rfl) dX6_set_8 ⟨Nat.zero_le _, Nat.zero_le _⟩ hS (fun q hq => hq) (fun H locs hB hF hS => ?_)
  have hE : eAt D cs a τ ss (upH hh fr (cpH (hh fr) τ)) pr pd ln fr kp su H := hB
  refine lv_aload_n hx hb dX6_set_11 rfl (lv_at hl 0 rfl) ?_
  refine e_g_history S hin6 hK hE (hts (.fieldLink RX6 33 "EnergyDiscs" "history" "LEnergyDiscs$History;") (by decide +kernel)) dX6_set_12 ?_
  refine lv_aload_n hx hb dX6_set_15 rfl (lv_at hl 0 rfl) ?_
  refine e_g_house S hin6 hK hE (hts (.fieldLink RX6 10 "EnergyDiscs" "house" "LEnergyDiscs$House;") (by decide +kernel)) dX6_set_16 ?_
  refine lv_iload_n hx hb dX6_set_19 rfl (lv_at hl 1 rfl) ?_
  refine lv_iload_n hx hb dX6_set_20 rfl (lv_at hl 2 rfl) ?_
  refine x_callVRz (As := [.int (zI k), .int (zI v)]) (rest := [.ref (a 4)]) S hK (kZ.keptS hZ hS hN) (c_X2_changeSetting_bad l D cs (ehs a 0) τ k v N (by omega) (by omega) (by omega)) (cwV 2 hts gX6_set_X2_changeSetting rfl rfl rfl (by decide +kernel) ⟨(Nat.le_of_ble_eq_true rfl), (Nat.le_of_ble_eq_true rfl)⟩) (x_rc hK (hsAt_0 (hAt_hs (eAt_H hE))) rfl) (eAt_H hE) rfl hl.1 (Nat.le_of_ble_eq_true rfl) dX6_set_21 ⟨Nat.zero_le _, Nat.zero_le _⟩ ?_
  refine x_callVR (As := [.int (zI (-2))]) (rest := []) S hK (c_X1_settle_bad l D cs a τ ss (upH hh fr (cpH (hh fr) τ)) pr pd ln fr kp su (-2) (by omega) (by omega)) (cwV 1 hts gX6_set_X1_settle rfl rfl rfl (by decide +kernel) ⟨(Nat.le_of_ble_eq_true rfl), (Nat.le_of_ble_eq_true rfl)⟩) (x_rc hK (eAt_4 hE) rfl) hE rfl hl.1 (Nat.le_of_ble_eq_true rfl) dX6_set_24 ⟨Nat.zero_le _, Nat.zero_le _⟩ ?_
  exact x_iretM hx hb hr hlocks (by first | rfl | omega) hE hS dX6_set_27
set_option maxHeartbeats 4000000 in
set_option maxRecDepth 100000 in
theorem c_X6_set_ok (l : Launch) (D : va_G) (cs : Nat → ClassId) (a : Int → Nat) (τ : Int → Int) (ss : Int → Int → Int) (hh : Int → Int → Int) (pr : Int → Int) (pd : Int → Int) (ln : Int) (fr : Int) (kp : Int) (su : Int → Int) (k : Int) (v : Int) (N : Nat) (hI : eI a) (hfr : 0 ≤ fr ∧ fr < 7) (hg : gOK τ 0) (hk : -2147483648 ≤ k ∧ k < 2147483648) (hvr : -2147483648 ≤ v ∧ v < 2147483648) (hkp : 0 ≤ kp ∧ kp ≤ 6) (hn : setOK k v) (h0 : 0 ≤ τ k ∧ τ k < 2147483648) (hN : ∀ q, eC a q → N ≤ q) : kMz D cs N l yX6_set wsX6_set ({ frames := 3, cells := 0, slots := 0, locals := 64 } : Room) [.ref (a 0), .int (zI k), .int (zI v)] (fun H => eAt D cs a τ ss hh pr pd ln fr kp su H) (some (.int (zI (τ k)))) (fun H => eAt D cs a (up τ k v) ss (upH hh fr (cpH (hh fr) τ)) pr pd ln ((fr + 1) % 7) (min 6 (kp + 1)) su H) (eC a) := by
  refine Met.ofW (cc := cX6_set) (maxL := 3) (ret := (some .int)) (by decide) rfl ?_
  intro p e s m args below meth c s₁ B hml hv
  obtain ⟨rfl, hK, hZ, hE⟩ := hv
  have hx := B.exec
  have hb := B.bytes
  have hr := B.returns
  have hts := atoms_spec (ws := wsX6_set) B.pre
  have hown : s.vm.findClass RX6 = some m.cls := findClass_of_methodNamed B.named
  have hlocks := B.notSynchronized
  have S : CallFix p m c cX6_set 3 s (([.ref (a 0), .int (zI k), .int (zI v)] : List Value)).toArray wsX6_set RX6 := ⟨hx, hb, hml, hown, hts⟩
  have hin6 : ∀ w ∈ wsX60, w ∈ wsX6_set := by decide +kernel
  have hS : va_S (eC a) s.heap s.heap [] := va_S.rf
  obtain ⟨⟨hw0, hw1, hw2⟩, t0, t1, t2, hZ0, hZ1, hZ2⟩ := id hZ
  have hl := lv_entry ([.ref (a 0), .int (zI k), .int (zI v)]) (n := 3) (Nat.le_of_ble_eq_true rfl)
  rw [lg_entry_eq]
  generalize (lg_sl ([.ref (a 0), .int (zI k), .int (zI v)]) ++ List.replicate (3 - (lg_sl ([.ref (a 0), .int (zI k), .int (zI v)])).length) Slot.unset).toArray = ls at hl ⊢
  have hl : lv_has ls 3 [(0, .ref (a 0)), (1, .int (zI k)), (2, .int (zI v))] := hl
  have h7 := hg.1.1
  have h8 := hg.1.2.1
  refine lv_aload_n hx hb dX6_set_0 rfl (lv_at hl 0 rfl) ?_
  refine e_g_history S hin6 hK hE (hts (.fieldLink RX6 33 "EnergyDiscs" "history" "LEnergyDiscs$History;") (by decide +kernel)) dX6_set_1 ?_
  refine lv_aload_n hx hb dX6_set_4 rfl (lv_at hl 0 rfl) ?_
  refine e_g_house S hin6 hK hE (hts (.fieldLink RX6 10 "EnergyDiscs" "house" "LEnergyDiscs$House;") (by decide +kernel)) dX6_set_5 ?_
  refine x_callVMn (As := [.ref (ehs a 0 0)]) (rest := []) S hK (c_X1_prepare l D cs a τ ss hh pr pd ln fr kp su (by first | exact hI | exact eI_H hI (by omega)) (by omega) (by exact hg)) (cwV 1 hts gX6_set_X1_prepare rfl rfl rfl (by decide +kernel) ⟨(Nat.le_of_ble_eq_true rfl), (Nat.le_of_ble_eq_true rfl)⟩) (x_rc hK (eAt_4 hE) rfl) hE rfl hl.1 (Nat.le_of_ble_eq_true rfl) dX6_set_8 ⟨Nat.zero_le _, Nat.zero_le _⟩ hS (fun q hq => hq) (fun H locs hB hF hS => ?_)
  have hE : eAt D cs a τ ss (upH hh fr (cpH (hh fr) τ)) pr pd ln fr kp su H := hB
  refine lv_aload_n hx hb dX6_set_11 rfl (lv_at hl 0 rfl) ?_
  refine e_g_history S hin6 hK hE (hts (.fieldLink RX6 33 "EnergyDiscs" "history" "LEnergyDiscs$History;") (by decide +kernel)) dX6_set_12 ?_
  refine lv_aload_n hx hb dX6_set_15 rfl (lv_at hl 0 rfl) ?_
  refine e_g_house S hin6 hK hE (hts (.fieldLink RX6 10 "EnergyDiscs" "house" "LEnergyDiscs$House;") (by decide +kernel)) dX6_set_16 ?_
  refine lv_iload_n hx hb dX6_set_19 rfl (lv_at hl 1 rfl) ?_
  refine lv_iload_n hx hb dX6_set_20 rfl (lv_at hl 2 rfl) ?_
  refine x_callVMz (As := [.int (zI k), .int (zI v)]) (rest := [.ref (a 4)]) S hK (kZ.keptS hZ hS hN) (c_X2_changeSetting_ok l D cs (ehs a 0) τ k v N (by omega) (by omega) (by omega) (by first | exact hI | exact eI_H hI (by omega)) (by exact fun q hq => hN q (eC_H (by decide) q hq))) (cwV 2 hts gX6_set_X2_changeSetting rfl rfl rfl (by decide +kernel) ⟨(Nat.le_of_ble_eq_true rfl), (Nat.le_of_ble_eq_true rfl)⟩) (x_rc hK (hsAt_0 (hAt_hs (eAt_H hE))) rfl) (eAt_H hE) rfl hl.1 (Nat.le_of_ble_eq_true rfl) dX6_set_21 ⟨Nat.zero_le _, Nat.zero_le _⟩ hS (eC_H (by decide)) (fun H locs hB hF hS => ?_)
  have hE : eAt D cs a (up τ k v) ss (upH hh fr (cpH (hh fr) τ)) pr pd ln fr kp su H := eAt_setH hE hI hB hF
  refine x_callVM (As := [.int (zI (τ k))]) (rest := []) S hK (c_X1_settle_ok l D cs a (up τ k v) ss (upH hh fr (cpH (hh fr) τ)) pr pd ln fr kp su (τ k) (by omega) (by omega) (by first | exact hI | exact eI_H hI (by omega)) (by omega) (by omega)) (cwV 1 hts gX6_set_X1_settle rfl rfl rfl (by decide +kernel) ⟨(Nat.le_of_ble_eq_true rfl), (Nat.le_of_ble_eq_true rfl)⟩) (x_rc hK (eAt_4 hE) rfl) hE rfl hl.1 (Nat.le_of_ble_eq_true rfl) dX6_set_24 ⟨Nat.zero_le _, Nat.zero_le _⟩ hS (fun q hq => hq) (fun H locs hB hF hS => ?_)
  have hE : eAt D cs a (up τ k v) ss (upH hh fr (cpH (hh fr) τ)) pr pd ln ((fr + 1) % 7) (min 6 (kp + 1)) su H := hB
  exact x_iretM hx hb hr hlocks (by first | rfl | omega) hE hS dX6_set_27
set_option maxHeartbeats 4000000 in
set_option maxRecDepth 100000 in
theorem c_X6_meter_bad (l : Launch) (D : va_G) (cs : Nat → ClassId) (a : Int → Nat) (τ : Int → Int) (ss : Int → Int → Int) (hh : Int → Int → Int) (pr : Int → Int) (pd : Int → Int) (ln : Int) (fr : Int) (kp : Int) (su : Int → Int) (k : Int) (hI : eI a) (hfr : 0 ≤ fr ∧ fr < 7) (hg : gOK τ 0) (hk : -2147483648 ≤ k ∧ k < 2147483648) (hn : wnM τ k < 0) : kM D cs l yX6_meter wsX6_meter ({ frames := 3, cells := 0, slots := 0, locals := 64 } : Room) [.ref (a 0), .int (zI k)] (fun H => eAt D cs a τ ss hh pr pd ln fr kp su H) (some (.int (zI (wnM τ k)))) (fun H => eAt D cs a τ ss (upH hh fr (cpH (hh fr) τ)) pr pd ln fr kp su H) (eC a) := by
  refine Met.ofW (cc := cX6_meter) (maxL := 2) (ret := (some .int)) (by decide) rfl ?_
  intro p e s m args below meth c s₁ B hml hv
  obtain ⟨rfl, hK, hE⟩ := hv
  have hx := B.exec
  have hb := B.bytes
  have hr := B.returns
  have hts := atoms_spec (ws := wsX6_meter) B.pre
  have hown : s.vm.findClass RX6 = some m.cls := findClass_of_methodNamed B.named
  have hlocks := B.notSynchronized
  have S : CallFix p m c cX6_meter 2 s (([.ref (a 0), .int (zI k)] : List Value)).toArray wsX6_meter RX6 := ⟨hx, hb, hml, hown, hts⟩
  have hin6 : ∀ w ∈ wsX60, w ∈ wsX6_meter := by decide +kernel
  have hS : va_S (eC a) s.heap s.heap [] := va_S.rf
  have hl := lv_entry ([.ref (a 0), .int (zI k)]) (n := 2) (Nat.le_of_ble_eq_true rfl)
  rw [lg_entry_eq]
  generalize (lg_sl ([.ref (a 0), .int (zI k)]) ++ List.replicate (2 - (lg_sl ([.ref (a 0), .int (zI k)])).length) Slot.unset).toArray = ls at hl ⊢
  have hl : lv_has ls 2 [(0, .ref (a 0)), (1, .int (zI k))] := hl
  have h7 := hg.1.1
  have h8 := hg.1.2.1
  refine lv_aload_n hx hb dX6_meter_0 rfl (lv_at hl 0 rfl) ?_
  refine e_g_history S hin6 hK hE (hts (.fieldLink RX6 33 "EnergyDiscs" "history" "LEnergyDiscs$History;") (by decide +kernel)) dX6_meter_1 ?_
  refine lv_aload_n hx hb dX6_meter_4 rfl (lv_at hl 0 rfl) ?_
  refine e_g_house S hin6 hK hE (hts (.fieldLink RX6 10 "EnergyDiscs" "house" "LEnergyDiscs$House;") (by decide +kernel)) dX6_meter_5 ?_
  refine x_callVMn (As := [.ref (ehs a 0 0)]) (rest := []) S hK (c_X1_prepare l D cs a τ ss hh pr pd ln fr kp su (by first | exact hI | exact eI_H hI (by omega)) (by omega) (by exact hg)) (cwV 1 hts gX6_meter_X1_prepare rfl rfl rfl (by decide +kernel) ⟨(Nat.le_of_ble_eq_true rfl), (Nat.le_of_ble_eq_true rfl)⟩) (x_rc hK (eAt_4 hE) rfl) hE rfl hl.1 (Nat.le_of_ble_eq_true rfl) dX6_meter_8 ⟨Nat.zero_le _, Nat.zero_le _⟩ hS (fun q hq => hq) (fun H locs hB hF hS => ?_)
  have hE : eAt D cs a τ ss (upH hh fr (cpH (hh fr) τ)) pr pd ln fr kp su H := hB
  refine lv_aload_n hx hb dX6_meter_11 rfl (lv_at hl 0 rfl) ?_
  refine e_g_history S hin6 hK hE (hts (.fieldLink RX6 33 "EnergyDiscs" "history" "LEnergyDiscs$History;") (by decide +kernel)) dX6_meter_12 ?_
  refine lv_aload_n hx hb dX6_meter_15 rfl (lv_at hl 0 rfl) ?_
  refine e_g_house S hin6 hK hE (hts (.fieldLink RX6 10 "EnergyDiscs" "house" "LEnergyDiscs$House;") (by decide +kernel)) dX6_meter_16 ?_
  refine lv_iload_n hx hb dX6_meter_19 rfl (lv_at hl 1 rfl) ?_
  refine x_callVR (As := [.int (zI k)]) (rest := [.ref (a 4)]) S hK (c_X2_addMeter_bad l D cs (ehs a 0) τ k (by omega) (by first | exact hk | (have := wnM_rng τ k; omega)) (by omega)) (cwV 1 hts gX6_meter_X2_addMeter rfl rfl rfl (by decide +kernel) ⟨(Nat.le_of_ble_eq_true rfl), (Nat.le_of_ble_eq_true rfl)⟩) (x_rc hK (hsAt_0 (hAt_hs (eAt_H hE))) rfl) (eAt_H hE) rfl hl.1 (Nat.le_of_ble_eq_true rfl) dX6_meter_20 ⟨Nat.zero_le _, Nat.zero_le _⟩ ?_
  refine x_callVR (As := [.int (zI (wnM τ k))]) (rest := []) S hK (c_X1_settle_bad l D cs a τ ss (upH hh fr (cpH (hh fr) τ)) pr pd ln fr kp su (wnM τ k) (by first | exact hk | (have := wnM_rng τ k; omega)) (by omega)) (cwV 1 hts gX6_meter_X1_settle rfl rfl rfl (by decide +kernel) ⟨(Nat.le_of_ble_eq_true rfl), (Nat.le_of_ble_eq_true rfl)⟩) (x_rc hK (eAt_4 hE) rfl) hE rfl hl.1 (Nat.le_of_ble_eq_true rfl) dX6_meter_23 ⟨Nat.zero_le _, Nat.zero_le _⟩ ?_
  exact x_iretM hx hb hr hlocks (by first | rfl | omega) hE hS dX6_meter_26
set_option maxHeartbeats 4000000 in
set_option maxRecDepth 100000 in
theorem c_X6_meter_ok (l : Launch) (D : va_G) (cs : Nat → ClassId) (a : Int → Nat) (τ : Int → Int) (ss : Int → Int → Int) (hh : Int → Int → Int) (pr : Int → Int) (pd : Int → Int) (ln : Int) (fr : Int) (kp : Int) (su : Int → Int) (k : Int) (hI : eI a) (hfr : 0 ≤ fr ∧ fr < 7) (hg : gOK τ 0) (hk : -2147483648 ≤ k ∧ k < 2147483648) (hkp : 0 ≤ kp ∧ kp ≤ 6) (hn : wnM τ k = 0) : kM D cs l yX6_meter wsX6_meter ({ frames := 3, cells := 0, slots := 0, locals := 64 } : Room) [.ref (a 0), .int (zI k)] (fun H => eAt D cs a τ ss hh pr pd ln fr kp su H) (some (.int (zI (τ 7)))) (fun H => eAt D cs a (amF τ k) ss (upH hh fr (cpH (hh fr) τ)) pr pd ln ((fr + 1) % 7) (min 6 (kp + 1)) su H) (eC a) := by
  refine Met.ofW (cc := cX6_meter) (maxL := 2) (ret := (some .int)) (by decide) rfl ?_
  intro p e s m args below meth c s₁ B hml hv
  obtain ⟨rfl, hK, hE⟩ := hv
  have hx := B.exec
  have hb := B.bytes
  have hr := B.returns
  have hts := atoms_spec (ws := wsX6_meter) B.pre
  have hown : s.vm.findClass RX6 = some m.cls := findClass_of_methodNamed B.named
  have hlocks := B.notSynchronized
  have S : CallFix p m c cX6_meter 2 s (([.ref (a 0), .int (zI k)] : List Value)).toArray wsX6_meter RX6 := ⟨hx, hb, hml, hown, hts⟩
  have hin6 : ∀ w ∈ wsX60, w ∈ wsX6_meter := by decide +kernel
  have hS : va_S (eC a) s.heap s.heap [] := va_S.rf
  have hl := lv_entry ([.ref (a 0), .int (zI k)]) (n := 2) (Nat.le_of_ble_eq_true rfl)
  rw [lg_entry_eq]
  generalize (lg_sl ([.ref (a 0), .int (zI k)]) ++ List.replicate (2 - (lg_sl ([.ref (a 0), .int (zI k)])).length) Slot.unset).toArray = ls at hl ⊢
  have hl : lv_has ls 2 [(0, .ref (a 0)), (1, .int (zI k))] := hl
  have h7 := hg.1.1
  have h8 := hg.1.2.1
  refine lv_aload_n hx hb dX6_meter_0 rfl (lv_at hl 0 rfl) ?_
  refine e_g_history S hin6 hK hE (hts (.fieldLink RX6 33 "EnergyDiscs" "history" "LEnergyDiscs$History;") (by decide +kernel)) dX6_meter_1 ?_
  refine lv_aload_n hx hb dX6_meter_4 rfl (lv_at hl 0 rfl) ?_
  refine e_g_house S hin6 hK hE (hts (.fieldLink RX6 10 "EnergyDiscs" "house" "LEnergyDiscs$House;") (by decide +kernel)) dX6_meter_5 ?_
  refine x_callVMn (As := [.ref (ehs a 0 0)]) (rest := []) S hK (c_X1_prepare l D cs a τ ss hh pr pd ln fr kp su (by first | exact hI | exact eI_H hI (by omega)) (by omega) (by exact hg)) (cwV 1 hts gX6_meter_X1_prepare rfl rfl rfl (by decide +kernel) ⟨(Nat.le_of_ble_eq_true rfl), (Nat.le_of_ble_eq_true rfl)⟩) (x_rc hK (eAt_4 hE) rfl) hE rfl hl.1 (Nat.le_of_ble_eq_true rfl) dX6_meter_8 ⟨Nat.zero_le _, Nat.zero_le _⟩ hS (fun q hq => hq) (fun H locs hB hF hS => ?_)
  have hE : eAt D cs a τ ss (upH hh fr (cpH (hh fr) τ)) pr pd ln fr kp su H := hB
  refine lv_aload_n hx hb dX6_meter_11 rfl (lv_at hl 0 rfl) ?_
  refine e_g_history S hin6 hK hE (hts (.fieldLink RX6 33 "EnergyDiscs" "history" "LEnergyDiscs$History;") (by decide +kernel)) dX6_meter_12 ?_
  refine lv_aload_n hx hb dX6_meter_15 rfl (lv_at hl 0 rfl) ?_
  refine e_g_house S hin6 hK hE (hts (.fieldLink RX6 10 "EnergyDiscs" "house" "LEnergyDiscs$House;") (by decide +kernel)) dX6_meter_16 ?_
  refine lv_iload_n hx hb dX6_meter_19 rfl (lv_at hl 1 rfl) ?_
  refine x_callVM (As := [.int (zI k)]) (rest := [.ref (a 4)]) S hK (c_X2_addMeter_ok l D cs (ehs a 0) τ k (by omega) (by omega) (by omega) (by first | exact hI | exact eI_H hI (by omega))) (cwV 1 hts gX6_meter_X2_addMeter rfl rfl rfl (by decide +kernel) ⟨(Nat.le_of_ble_eq_true rfl), (Nat.le_of_ble_eq_true rfl)⟩) (x_rc hK (hsAt_0 (hAt_hs (eAt_H hE))) rfl) (eAt_H hE) rfl hl.1 (Nat.le_of_ble_eq_true rfl) dX6_meter_20 ⟨Nat.zero_le _, Nat.zero_le _⟩ hS (eC_H (by decide)) (fun H locs hB hF hS => ?_)
  have hE : eAt D cs a (amF τ k) ss (upH hh fr (cpH (hh fr) τ)) pr pd ln fr kp su H := eAt_setH hE hI hB hF
  refine x_callVM (As := [.int (zI (τ 7))]) (rest := []) S hK (c_X1_settle_ok l D cs a (amF τ k) ss (upH hh fr (cpH (hh fr) τ)) pr pd ln fr kp su (τ 7) (by omega) (by omega) (by first | exact hI | exact eI_H hI (by omega)) (by omega) (by omega)) (cwV 1 hts gX6_meter_X1_settle rfl rfl rfl (by decide +kernel) ⟨(Nat.le_of_ble_eq_true rfl), (Nat.le_of_ble_eq_true rfl)⟩) (x_rc hK (eAt_4 hE) rfl) hE rfl hl.1 (Nat.le_of_ble_eq_true rfl) dX6_meter_23 ⟨Nat.zero_le _, Nat.zero_le _⟩ hS (fun q hq => hq) (fun H locs hB hF hS => ?_)
  have hE : eAt D cs a (amF τ k) ss (upH hh fr (cpH (hh fr) τ)) pr pd ln ((fr + 1) % 7) (min 6 (kp + 1)) su H := hB
  exact x_iretM hx hb hr hlocks (by first | rfl | omega) hE hS dX6_meter_26
set_option maxHeartbeats 4000000 in
set_option maxRecDepth 100000 in
theorem c_X6_load_bad (l : Launch) (D : va_G) (cs : Nat → ClassId) (a : Int → Nat) (τ : Int → Int) (ss : Int → Int → Int) (hh : Int → Int → Int) (pr : Int → Int) (pd : Int → Int) (ln : Int) (fr : Int) (kp : Int) (su : Int → Int) (k : Int) (w : Int) (hI : eI a) (hfr : 0 ≤ fr ∧ fr < 7) (hg : gOK τ 0) (hk : -2147483648 ≤ k ∧ k < 2147483648) (hw : -2147483648 ≤ w ∧ w < 2147483648) (hn : wnL τ k w < 0) : kM D cs l yX6_load wsX6_load ({ frames := 3, cells := 0, slots := 0, locals := 64 } : Room) [.ref (a 0), .int (zI k), .int (zI w)] (fun H => eAt D cs a τ ss hh pr pd ln fr kp su H) (some (.int (zI (wnL τ k w)))) (fun H => eAt D cs a τ ss (upH hh fr (cpH (hh fr) τ)) pr pd ln fr kp su H) (eC a) := by
  refine Met.ofW (cc := cX6_load) (maxL := 3) (ret := (some .int)) (by decide) rfl ?_
  intro p e s m args below meth c s₁ B hml hv
  obtain ⟨rfl, hK, hE⟩ := hv
  have hx := B.exec
  have hb := B.bytes
  have hr := B.returns
  have hts := atoms_spec (ws := wsX6_load) B.pre
  have hown : s.vm.findClass RX6 = some m.cls := findClass_of_methodNamed B.named
  have hlocks := B.notSynchronized
  have S : CallFix p m c cX6_load 3 s (([.ref (a 0), .int (zI k), .int (zI w)] : List Value)).toArray wsX6_load RX6 := ⟨hx, hb, hml, hown, hts⟩
  have hin6 : ∀ w ∈ wsX60, w ∈ wsX6_load := by decide +kernel
  have hS : va_S (eC a) s.heap s.heap [] := va_S.rf
  have hl := lv_entry ([.ref (a 0), .int (zI k), .int (zI w)]) (n := 3) (Nat.le_of_ble_eq_true rfl)
  rw [lg_entry_eq]
  generalize (lg_sl ([.ref (a 0), .int (zI k), .int (zI w)]) ++ List.replicate (3 - (lg_sl ([.ref (a 0), .int (zI k), .int (zI w)])).length) Slot.unset).toArray = ls at hl ⊢
  have hl : lv_has ls 3 [(0, .ref (a 0)), (1, .int (zI k)), (2, .int (zI w))] := hl
  have h7 := hg.1.1
  have h8 := hg.1.2.1
  refine lv_aload_n hx hb dX6_load_0 rfl (lv_at hl 0 rfl) ?_
  refine e_g_history S hin6 hK hE (hts (.fieldLink RX6 33 "EnergyDiscs" "history" "LEnergyDiscs$History;") (by decide +kernel)) dX6_load_1 ?_
  refine lv_aload_n hx hb dX6_load_4 rfl (lv_at hl 0 rfl) ?_
  refine e_g_house S hin6 hK hE (hts (.fieldLink RX6 10 "EnergyDiscs" "house" "LEnergyDiscs$House;") (by decide +kernel)) dX6_load_5 ?_
  refine x_callVMn (As := [.ref (ehs a 0 0)]) (rest := []) S hK (c_X1_prepare l D cs a τ ss hh pr pd ln fr kp su (by first | exact hI | exact eI_H hI (by omega)) (by omega) (by exact hg)) (cwV 1 hts gX6_load_X1_prepare rfl rfl rfl (by decide +kernel) ⟨(Nat.le_of_ble_eq_true rfl), (Nat.le_of_ble_eq_true rfl)⟩) (x_rc hK (eAt_4 hE) rfl) hE rfl hl.1 (Nat.le_of_ble_eq_true rfl) dX6_load_8 ⟨Nat.zero_le _, Nat.zero_le _⟩ hS (fun q hq => hq) (fun H locs hB hF hS => ?_)
  have hE : eAt D cs a τ ss (upH hh fr (cpH (hh fr) τ)) pr pd ln fr kp su H := hB
  refine lv_aload_n hx hb dX6_load_11 rfl (lv_at hl 0 rfl) ?_
  refine e_g_history S hin6 hK hE (hts (.fieldLink RX6 33 "EnergyDiscs" "history" "LEnergyDiscs$History;") (by decide +kernel)) dX6_load_12 ?_
  refine lv_aload_n hx hb dX6_load_15 rfl (lv_at hl 0 rfl) ?_
  refine e_g_house S hin6 hK hE (hts (.fieldLink RX6 10 "EnergyDiscs" "house" "LEnergyDiscs$House;") (by decide +kernel)) dX6_load_16 ?_
  refine lv_iload_n hx hb dX6_load_19 rfl (lv_at hl 1 rfl) ?_
  refine lv_iload_n hx hb dX6_load_20 rfl (lv_at hl 2 rfl) ?_
  refine x_callVR (As := [.int (zI k), .int (zI w)]) (rest := [.ref (a 4)]) S hK (c_X2_addLoad_bad l D cs (ehs a 0) τ k w (by omega) (by omega) (by first | exact hk | (have := wnL_rng τ k w; omega)) (by omega) (by omega)) (cwV 2 hts gX6_load_X2_addLoad rfl rfl rfl (by decide +kernel) ⟨(Nat.le_of_ble_eq_true rfl), (Nat.le_of_ble_eq_true rfl)⟩) (x_rc hK (hsAt_0 (hAt_hs (eAt_H hE))) rfl) (eAt_H hE) rfl hl.1 (Nat.le_of_ble_eq_true rfl) dX6_load_21 ⟨Nat.zero_le _, Nat.zero_le _⟩ ?_
  refine x_callVR (As := [.int (zI (wnL τ k w))]) (rest := []) S hK (c_X1_settle_bad l D cs a τ ss (upH hh fr (cpH (hh fr) τ)) pr pd ln fr kp su (wnL τ k w) (by first | exact hk | (have := wnL_rng τ k w; omega)) (by omega)) (cwV 1 hts gX6_load_X1_settle rfl rfl rfl (by decide +kernel) ⟨(Nat.le_of_ble_eq_true rfl), (Nat.le_of_ble_eq_true rfl)⟩) (x_rc hK (eAt_4 hE) rfl) hE rfl hl.1 (Nat.le_of_ble_eq_true rfl) dX6_load_24 ⟨Nat.zero_le _, Nat.zero_le _⟩ ?_
  exact x_iretM hx hb hr hlocks (by first | rfl | omega) hE hS dX6_load_27
set_option maxHeartbeats 4000000 in
set_option maxRecDepth 100000 in
theorem c_X6_load_ok (l : Launch) (D : va_G) (cs : Nat → ClassId) (a : Int → Nat) (τ : Int → Int) (ss : Int → Int → Int) (hh : Int → Int → Int) (pr : Int → Int) (pd : Int → Int) (ln : Int) (fr : Int) (kp : Int) (su : Int → Int) (k : Int) (w : Int) (hI : eI a) (hfr : 0 ≤ fr ∧ fr < 7) (hg : gOK τ 0) (hk : -2147483648 ≤ k ∧ k < 2147483648) (hw : -2147483648 ≤ w ∧ w < 2147483648) (hkp : 0 ≤ kp ∧ kp ≤ 6) (hn : wnL τ k w = 0) : kM D cs l yX6_load wsX6_load ({ frames := 3, cells := 0, slots := 0, locals := 64 } : Room) [.ref (a 0), .int (zI k), .int (zI w)] (fun H => eAt D cs a τ ss hh pr pd ln fr kp su H) (some (.int (zI (τ 8)))) (fun H => eAt D cs a (alF τ k w) ss (upH hh fr (cpH (hh fr) τ)) pr pd ln ((fr + 1) % 7) (min 6 (kp + 1)) su H) (eC a) := by
  refine Met.ofW (cc := cX6_load) (maxL := 3) (ret := (some .int)) (by decide) rfl ?_
  intro p e s m args below meth c s₁ B hml hv
  obtain ⟨rfl, hK, hE⟩ := hv
  have hx := B.exec
  have hb := B.bytes
  have hr := B.returns
  have hts := atoms_spec (ws := wsX6_load) B.pre
  have hown : s.vm.findClass RX6 = some m.cls := findClass_of_methodNamed B.named
  have hlocks := B.notSynchronized
  have S : CallFix p m c cX6_load 3 s (([.ref (a 0), .int (zI k), .int (zI w)] : List Value)).toArray wsX6_load RX6 := ⟨hx, hb, hml, hown, hts⟩
  have hin6 : ∀ w ∈ wsX60, w ∈ wsX6_load := by decide +kernel
  have hS : va_S (eC a) s.heap s.heap [] := va_S.rf
  have hl := lv_entry ([.ref (a 0), .int (zI k), .int (zI w)]) (n := 3) (Nat.le_of_ble_eq_true rfl)
  rw [lg_entry_eq]
  generalize (lg_sl ([.ref (a 0), .int (zI k), .int (zI w)]) ++ List.replicate (3 - (lg_sl ([.ref (a 0), .int (zI k), .int (zI w)])).length) Slot.unset).toArray = ls at hl ⊢
  have hl : lv_has ls 3 [(0, .ref (a 0)), (1, .int (zI k)), (2, .int (zI w))] := hl
  have h7 := hg.1.1
  have h8 := hg.1.2.1
  refine lv_aload_n hx hb dX6_load_0 rfl (lv_at hl 0 rfl) ?_
  refine e_g_history S hin6 hK hE (hts (.fieldLink RX6 33 "EnergyDiscs" "history" "LEnergyDiscs$History;") (by decide +kernel)) dX6_load_1 ?_
  refine lv_aload_n hx hb dX6_load_4 rfl (lv_at hl 0 rfl) ?_
  refine e_g_house S hin6 hK hE (hts (.fieldLink RX6 10 "EnergyDiscs" "house" "LEnergyDiscs$House;") (by decide +kernel)) dX6_load_5 ?_
  refine x_callVMn (As := [.ref (ehs a 0 0)]) (rest := []) S hK (c_X1_prepare l D cs a τ ss hh pr pd ln fr kp su (by first | exact hI | exact eI_H hI (by omega)) (by omega) (by exact hg)) (cwV 1 hts gX6_load_X1_prepare rfl rfl rfl (by decide +kernel) ⟨(Nat.le_of_ble_eq_true rfl), (Nat.le_of_ble_eq_true rfl)⟩) (x_rc hK (eAt_4 hE) rfl) hE rfl hl.1 (Nat.le_of_ble_eq_true rfl) dX6_load_8 ⟨Nat.zero_le _, Nat.zero_le _⟩ hS (fun q hq => hq) (fun H locs hB hF hS => ?_)
  have hE : eAt D cs a τ ss (upH hh fr (cpH (hh fr) τ)) pr pd ln fr kp su H := hB
  refine lv_aload_n hx hb dX6_load_11 rfl (lv_at hl 0 rfl) ?_
  refine e_g_history S hin6 hK hE (hts (.fieldLink RX6 33 "EnergyDiscs" "history" "LEnergyDiscs$History;") (by decide +kernel)) dX6_load_12 ?_
  refine lv_aload_n hx hb dX6_load_15 rfl (lv_at hl 0 rfl) ?_
  refine e_g_house S hin6 hK hE (hts (.fieldLink RX6 10 "EnergyDiscs" "house" "LEnergyDiscs$House;") (by decide +kernel)) dX6_load_16 ?_
  refine lv_iload_n hx hb dX6_load_19 rfl (lv_at hl 1 rfl) ?_
  refine lv_iload_n hx hb dX6_load_20 rfl (lv_at hl 2 rfl) ?_
  refine x_callVM (As := [.int (zI k), .int (zI w)]) (rest := [.ref (a 4)]) S hK (c_X2_addLoad_ok l D cs (ehs a 0) τ k w (by omega) (by omega) (by omega) (by omega) (by omega) (by first | exact hI | exact eI_H hI (by omega))) (cwV 2 hts gX6_load_X2_addLoad rfl rfl rfl (by decide +kernel) ⟨(Nat.le_of_ble_eq_true rfl), (Nat.le_of_ble_eq_true rfl)⟩) (x_rc hK (hsAt_0 (hAt_hs (eAt_H hE))) rfl) (eAt_H hE) rfl hl.1 (Nat.le_of_ble_eq_true rfl) dX6_load_21 ⟨Nat.zero_le _, Nat.zero_le _⟩ hS (eC_H (by decide)) (fun H locs hB hF hS => ?_)
  have hE : eAt D cs a (alF τ k w) ss (upH hh fr (cpH (hh fr) τ)) pr pd ln fr kp su H := eAt_setH hE hI hB hF
  refine x_callVM (As := [.int (zI (τ 8))]) (rest := []) S hK (c_X1_settle_ok l D cs a (alF τ k w) ss (upH hh fr (cpH (hh fr) τ)) pr pd ln fr kp su (τ 8) (by omega) (by omega) (by first | exact hI | exact eI_H hI (by omega)) (by omega) (by omega)) (cwV 1 hts gX6_load_X1_settle rfl rfl rfl (by decide +kernel) ⟨(Nat.le_of_ble_eq_true rfl), (Nat.le_of_ble_eq_true rfl)⟩) (x_rc hK (eAt_4 hE) rfl) hE rfl hl.1 (Nat.le_of_ble_eq_true rfl) dX6_load_24 ⟨Nat.zero_le _, Nat.zero_le _⟩ hS (fun q hq => hq) (fun H locs hB hF hS => ?_)
  have hE : eAt D cs a (alF τ k w) ss (upH hh fr (cpH (hh fr) τ)) pr pd ln ((fr + 1) % 7) (min 6 (kp + 1)) su H := hB
  exact x_iretM hx hb hr hlocks (by first | rfl | omega) hE hS dX6_load_27
set_option maxHeartbeats 4000000 in
set_option maxRecDepth 100000 in
theorem c_X6_turn_bad (l : Launch) (D : va_G) (cs : Nat → ClassId) (a : Int → Nat) (τ : Int → Int) (ss : Int → Int → Int) (hh : Int → Int → Int) (pr : Int → Int) (pd : Int → Int) (ln : Int) (fr : Int) (kp : Int) (su : Int → Int) (k : Int) (hI : eI a) (hfr : 0 ≤ fr ∧ fr < 7) (hg : gOK τ 0) (hk : -2147483648 ≤ k ∧ k < 2147483648) (hn : ¬ (0 ≤ k ∧ k < τ 8)) : kM D cs l yX6_turn wsX6_turn ({ frames := 3, cells := 0, slots := 0, locals := 64 } : Room) [.ref (a 0), .int (zI k)] (fun H => eAt D cs a τ ss hh pr pd ln fr kp su H) (some (.int (zI (-1)))) (fun H => eAt D cs a τ ss (upH hh fr (cpH (hh fr) τ)) pr pd ln fr kp su H) (eC a) := by
  refine Met.ofW (cc := cX6_turn) (maxL := 2) (ret := (some .int)) (by decide) rfl ?_
  intro p e s m args below meth c s₁ B hml hv
  obtain ⟨rfl, hK, hE⟩ := hv
  have hx := B.exec
  have hb := B.bytes
  have hr := B.returns
  have hts := atoms_spec (ws := wsX6_turn) B.pre
  have hown : s.vm.findClass RX6 = some m.cls := findClass_of_methodNamed B.named
  have hlocks := B.notSynchronized
  have S : CallFix p m c cX6_turn 2 s (([.ref (a 0), .int (zI k)] : List Value)).toArray wsX6_turn RX6 := ⟨hx, hb, hml, hown, hts⟩
  have hin6 : ∀ w ∈ wsX60, w ∈ wsX6_turn := by decide +kernel
  have hS : va_S (eC a) s.heap s.heap [] := va_S.rf
  have hl := lv_entry ([.ref (a 0), .int (zI k)]) (n := 2) (Nat.le_of_ble_eq_true rfl)
  rw [lg_entry_eq]
  generalize (lg_sl ([.ref (a 0), .int (zI k)]) ++ List.replicate (2 - (lg_sl ([.ref (a 0), .int (zI k)])).length) Slot.unset).toArray = ls at hl ⊢
  have hl : lv_has ls 2 [(0, .ref (a 0)), (1, .int (zI k))] := hl
  have h7 := hg.1.1
  have h8 := hg.1.2.1
  refine lv_aload_n hx hb dX6_turn_0 rfl (lv_at hl 0 rfl) ?_
  refine e_g_history S hin6 hK hE (hts (.fieldLink RX6 33 "EnergyDiscs" "history" "LEnergyDiscs$History;") (by decide +kernel)) dX6_turn_1 ?_
  refine lv_aload_n hx hb dX6_turn_4 rfl (lv_at hl 0 rfl) ?_
  refine e_g_house S hin6 hK hE (hts (.fieldLink RX6 10 "EnergyDiscs" "house" "LEnergyDiscs$House;") (by decide +kernel)) dX6_turn_5 ?_
  refine x_callVMn (As := [.ref (ehs a 0 0)]) (rest := []) S hK (c_X1_prepare l D cs a τ ss hh pr pd ln fr kp su (by first | exact hI | exact eI_H hI (by omega)) (by omega) (by exact hg)) (cwV 1 hts gX6_turn_X1_prepare rfl rfl rfl (by decide +kernel) ⟨(Nat.le_of_ble_eq_true rfl), (Nat.le_of_ble_eq_true rfl)⟩) (x_rc hK (eAt_4 hE) rfl) hE rfl hl.1 (Nat.le_of_ble_eq_true rfl) dX6_turn_8 ⟨Nat.zero_le _, Nat.zero_le _⟩ hS (fun q hq => hq) (fun H locs hB hF hS => ?_)
  have hE : eAt D cs a τ ss (upH hh fr (cpH (hh fr) τ)) pr pd ln fr kp su H := hB
  refine lv_aload_n hx hb dX6_turn_11 rfl (lv_at hl 0 rfl) ?_
  refine e_g_history S hin6 hK hE (hts (.fieldLink RX6 33 "EnergyDiscs" "history" "LEnergyDiscs$History;") (by decide +kernel)) dX6_turn_12 ?_
  refine lv_aload_n hx hb dX6_turn_15 rfl (lv_at hl 0 rfl) ?_
  refine e_g_house S hin6 hK hE (hts (.fieldLink RX6 10 "EnergyDiscs" "house" "LEnergyDiscs$House;") (by decide +kernel)) dX6_turn_16 ?_
  refine lv_iload_n hx hb dX6_turn_19 rfl (lv_at hl 1 rfl) ?_
  refine x_callVR (As := [.int (zI k)]) (rest := [.ref (a 4)]) S hK (c_X2_switchLoad_bad l D cs (ehs a 0) τ k (by omega) (by first | omega | (split <;> omega)) (by first | omega | exact hn | (split <;> omega))) (cwV 1 hts gX6_turn_X2_switchLoad rfl rfl rfl (by decide +kernel) ⟨(Nat.le_of_ble_eq_true rfl), (Nat.le_of_ble_eq_true rfl)⟩) (x_rc hK (hsAt_0 (hAt_hs (eAt_H hE))) rfl) (eAt_H hE) rfl hl.1 (Nat.le_of_ble_eq_true rfl) dX6_turn_20 ⟨Nat.zero_le _, Nat.zero_le _⟩ ?_
  refine x_callVR (As := [.int (zI (-1))]) (rest := []) S hK (c_X1_settle_bad l D cs a τ ss (upH hh fr (cpH (hh fr) τ)) pr pd ln fr kp su (-1) (by first | omega | (split <;> omega)) (by first | omega | exact hn | (split <;> omega))) (cwV 1 hts gX6_turn_X1_settle rfl rfl rfl (by decide +kernel) ⟨(Nat.le_of_ble_eq_true rfl), (Nat.le_of_ble_eq_true rfl)⟩) (x_rc hK (eAt_4 hE) rfl) hE rfl hl.1 (Nat.le_of_ble_eq_true rfl) dX6_turn_23 ⟨Nat.zero_le _, Nat.zero_le _⟩ ?_
  exact x_iretM hx hb hr hlocks (by first | rfl | omega) hE hS dX6_turn_26
set_option maxHeartbeats 4000000 in
set_option maxRecDepth 100000 in
theorem c_X6_turn_ok (l : Launch) (D : va_G) (cs : Nat → ClassId) (a : Int → Nat) (τ : Int → Int) (ss : Int → Int → Int) (hh : Int → Int → Int) (pr : Int → Int) (pd : Int → Int) (ln : Int) (fr : Int) (kp : Int) (su : Int → Int) (k : Int) (hI : eI a) (hfr : 0 ≤ fr ∧ fr < 7) (hg : gOK τ 0) (hk : -2147483648 ≤ k ∧ k < 2147483648) (hkp : 0 ≤ kp ∧ kp ≤ 6) (hkk : (0 ≤ k ∧ k < τ 8)) (h01 : τ (102 + 3 * k + 2) = 0 ∨ τ (102 + 3 * k + 2) = 1) : kM D cs l yX6_turn wsX6_turn ({ frames := 3, cells := 0, slots := 0, locals := 64 } : Room) [.ref (a 0), .int (zI k)] (fun H => eAt D cs a τ ss hh pr pd ln fr kp su H) (some (.int (zI (if τ (102 + 3 * k + 2) = 0 then 1 else 0)))) (fun H => eAt D cs a (swF τ k) ss (upH hh fr (cpH (hh fr) τ)) pr pd ln ((fr + 1) % 7) (min 6 (kp + 1)) su H) (eC a) := by
  refine Met.ofW (cc := cX6_turn) (maxL := 2) (ret := (some .int)) (by decide) rfl ?_
  intro p e s m args below meth c s₁ B hml hv
  obtain ⟨rfl, hK, hE⟩ := hv
  have hx := B.exec
  have hb := B.bytes
  have hr := B.returns
  have hts := atoms_spec (ws := wsX6_turn) B.pre
  have hown : s.vm.findClass RX6 = some m.cls := findClass_of_methodNamed B.named
  have hlocks := B.notSynchronized
  have S : CallFix p m c cX6_turn 2 s (([.ref (a 0), .int (zI k)] : List Value)).toArray wsX6_turn RX6 := ⟨hx, hb, hml, hown, hts⟩
  have hin6 : ∀ w ∈ wsX60, w ∈ wsX6_turn := by decide +kernel
  have hS : va_S (eC a) s.heap s.heap [] := va_S.rf
  have hl := lv_entry ([.ref (a 0), .int (zI k)]) (n := 2) (Nat.le_of_ble_eq_true rfl)
  rw [lg_entry_eq]
  generalize (lg_sl ([.ref (a 0), .int (zI k)]) ++ List.replicate (2 - (lg_sl ([.ref (a 0), .int (zI k)])).length) Slot.unset).toArray = ls at hl ⊢
  have hl : lv_has ls 2 [(0, .ref (a 0)), (1, .int (zI k))] := hl
  have h7 := hg.1.1
  have h8 := hg.1.2.1
  refine lv_aload_n hx hb dX6_turn_0 rfl (lv_at hl 0 rfl) ?_
  refine e_g_history S hin6 hK hE (hts (.fieldLink RX6 33 "EnergyDiscs" "history" "LEnergyDiscs$History;") (by decide +kernel)) dX6_turn_1 ?_
  refine lv_aload_n hx hb dX6_turn_4 rfl (lv_at hl 0 rfl) ?_
  refine e_g_house S hin6 hK hE (hts (.fieldLink RX6 10 "EnergyDiscs" "house" "LEnergyDiscs$House;") (by decide +kernel)) dX6_turn_5 ?_
  refine x_callVMn (As := [.ref (ehs a 0 0)]) (rest := []) S hK (c_X1_prepare l D cs a τ ss hh pr pd ln fr kp su (by first | exact hI | exact eI_H hI (by omega)) (by omega) (by exact hg)) (cwV 1 hts gX6_turn_X1_prepare rfl rfl rfl (by decide +kernel) ⟨(Nat.le_of_ble_eq_true rfl), (Nat.le_of_ble_eq_true rfl)⟩) (x_rc hK (eAt_4 hE) rfl) hE rfl hl.1 (Nat.le_of_ble_eq_true rfl) dX6_turn_8 ⟨Nat.zero_le _, Nat.zero_le _⟩ hS (fun q hq => hq) (fun H locs hB hF hS => ?_)
  have hE : eAt D cs a τ ss (upH hh fr (cpH (hh fr) τ)) pr pd ln fr kp su H := hB
  refine lv_aload_n hx hb dX6_turn_11 rfl (lv_at hl 0 rfl) ?_
  refine e_g_history S hin6 hK hE (hts (.fieldLink RX6 33 "EnergyDiscs" "history" "LEnergyDiscs$History;") (by decide +kernel)) dX6_turn_12 ?_
  refine lv_aload_n hx hb dX6_turn_15 rfl (lv_at hl 0 rfl) ?_
  refine e_g_house S hin6 hK hE (hts (.fieldLink RX6 10 "EnergyDiscs" "house" "LEnergyDiscs$House;") (by decide +kernel)) dX6_turn_16 ?_
  refine lv_iload_n hx hb dX6_turn_19 rfl (lv_at hl 1 rfl) ?_
  refine x_callVM (As := [.int (zI k)]) (rest := [.ref (a 4)]) S hK (c_X2_switchLoad_ok l D cs (ehs a 0) τ k (by omega) (by first | omega | (split <;> omega)) (by omega) (by first | exact hI | exact eI_H hI (by omega))) (cwV 1 hts gX6_turn_X2_switchLoad rfl rfl rfl (by decide +kernel) ⟨(Nat.le_of_ble_eq_true rfl), (Nat.le_of_ble_eq_true rfl)⟩) (x_rc hK (hsAt_0 (hAt_hs (eAt_H hE))) rfl) (eAt_H hE) rfl hl.1 (Nat.le_of_ble_eq_true rfl) dX6_turn_20 ⟨Nat.zero_le _, Nat.zero_le _⟩ hS (eC_H (by decide)) (fun H locs hB hF hS => ?_)
  have hE : eAt D cs a (swF τ k) ss (upH hh fr (cpH (hh fr) τ)) pr pd ln fr kp su H := eAt_setH hE hI hB hF
  refine x_callVM (As := [.int (zI (if τ (102 + 3 * k + 2) = 0 then 1 else 0))]) (rest := []) S hK (c_X1_settle_ok l D cs a (swF τ k) ss (upH hh fr (cpH (hh fr) τ)) pr pd ln fr kp su (if τ (102 + 3 * k + 2) = 0 then 1 else 0) (by first | omega | (split <;> omega)) (by first | omega | exact hn | (split <;> omega)) (by first | exact hI | exact eI_H hI (by omega)) (by omega) (by omega)) (cwV 1 hts gX6_turn_X1_settle rfl rfl rfl (by decide +kernel) ⟨(Nat.le_of_ble_eq_true rfl), (Nat.le_of_ble_eq_true rfl)⟩) (x_rc hK (eAt_4 hE) rfl) hE rfl hl.1 (Nat.le_of_ble_eq_true rfl) dX6_turn_23 ⟨Nat.zero_le _, Nat.zero_le _⟩ hS (fun q hq => hq) (fun H locs hB hF hS => ?_)
  have hE : eAt D cs a (swF τ k) ss (upH hh fr (cpH (hh fr) τ)) pr pd ln ((fr + 1) % 7) (min 6 (kp + 1)) su H := hB
  exact x_iretM hx hb hr hlocks (by first | rfl | omega) hE hS dX6_turn_26
set_option maxHeartbeats 4000000 in
set_option maxRecDepth 100000 in
theorem c_X6_tamper_bad (l : Launch) (D : va_G) (cs : Nat → ClassId) (a : Int → Nat) (τ : Int → Int) (ss : Int → Int → Int) (hh : Int → Int → Int) (pr : Int → Int) (pd : Int → Int) (ln : Int) (fr : Int) (kp : Int) (su : Int → Int) (k : Int) (hI : eI a) (hfr : 0 ≤ fr ∧ fr < 7) (hg : gOK τ 0) (hk : -2147483648 ≤ k ∧ k < 2147483648) (hb0 : 0 ≤ k → k < τ 7 → τ (11 + 13 * k + 7) = 0 ∨ τ (11 + 13 * k + 7) = 1) (hn : wnT τ k < 0) : kM D cs l yX6_tamper wsX6_tamper ({ frames := 3, cells := 0, slots := 0, locals := 64 } : Room) [.ref (a 0), .int (zI k)] (fun H => eAt D cs a τ ss hh pr pd ln fr kp su H) (some (.int (zI (wnT τ k)))) (fun H => eAt D cs a τ ss (upH hh fr (cpH (hh fr) τ)) pr pd ln fr kp su H) (eC a) := by
  refine Met.ofW (cc := cX6_tamper) (maxL := 2) (ret := (some .int)) (by decide) rfl ?_
  intro p e s m args below meth c s₁ B hml hv
  obtain ⟨rfl, hK, hE⟩ := hv
  have hx := B.exec
  have hb := B.bytes
  have hr := B.returns
  have hts := atoms_spec (ws := wsX6_tamper) B.pre
  have hown : s.vm.findClass RX6 = some m.cls := findClass_of_methodNamed B.named
  have hlocks := B.notSynchronized
  have S : CallFix p m c cX6_tamper 2 s (([.ref (a 0), .int (zI k)] : List Value)).toArray wsX6_tamper RX6 := ⟨hx, hb, hml, hown, hts⟩
  have hin6 : ∀ w ∈ wsX60, w ∈ wsX6_tamper := by decide +kernel
  have hS : va_S (eC a) s.heap s.heap [] := va_S.rf
  have hl := lv_entry ([.ref (a 0), .int (zI k)]) (n := 2) (Nat.le_of_ble_eq_true rfl)
  rw [lg_entry_eq]
  generalize (lg_sl ([.ref (a 0), .int (zI k)]) ++ List.replicate (2 - (lg_sl ([.ref (a 0), .int (zI k)])).length) Slot.unset).toArray = ls at hl ⊢
  have hl : lv_has ls 2 [(0, .ref (a 0)), (1, .int (zI k))] := hl
  have h7 := hg.1.1
  have h8 := hg.1.2.1
  refine lv_aload_n hx hb dX6_tamper_0 rfl (lv_at hl 0 rfl) ?_
  refine e_g_history S hin6 hK hE (hts (.fieldLink RX6 33 "EnergyDiscs" "history" "LEnergyDiscs$History;") (by decide +kernel)) dX6_tamper_1 ?_
  refine lv_aload_n hx hb dX6_tamper_4 rfl (lv_at hl 0 rfl) ?_
  refine e_g_house S hin6 hK hE (hts (.fieldLink RX6 10 "EnergyDiscs" "house" "LEnergyDiscs$House;") (by decide +kernel)) dX6_tamper_5 ?_
  refine x_callVMn (As := [.ref (ehs a 0 0)]) (rest := []) S hK (c_X1_prepare l D cs a τ ss hh pr pd ln fr kp su (by first | exact hI | exact eI_H hI (by omega)) (by omega) (by exact hg)) (cwV 1 hts gX6_tamper_X1_prepare rfl rfl rfl (by decide +kernel) ⟨(Nat.le_of_ble_eq_true rfl), (Nat.le_of_ble_eq_true rfl)⟩) (x_rc hK (eAt_4 hE) rfl) hE rfl hl.1 (Nat.le_of_ble_eq_true rfl) dX6_tamper_8 ⟨Nat.zero_le _, Nat.zero_le _⟩ hS (fun q hq => hq) (fun H locs hB hF hS => ?_)
  have hE : eAt D cs a τ ss (upH hh fr (cpH (hh fr) τ)) pr pd ln fr kp su H := hB
  refine lv_aload_n hx hb dX6_tamper_11 rfl (lv_at hl 0 rfl) ?_
  refine e_g_history S hin6 hK hE (hts (.fieldLink RX6 33 "EnergyDiscs" "history" "LEnergyDiscs$History;") (by decide +kernel)) dX6_tamper_12 ?_
  refine lv_aload_n hx hb dX6_tamper_15 rfl (lv_at hl 0 rfl) ?_
  refine e_g_house S hin6 hK hE (hts (.fieldLink RX6 10 "EnergyDiscs" "house" "LEnergyDiscs$House;") (by decide +kernel)) dX6_tamper_16 ?_
  refine lv_iload_n hx hb dX6_tamper_19 rfl (lv_at hl 1 rfl) ?_
  refine x_callVR (As := [.int (zI k)]) (rest := [.ref (a 4)]) S hK (c_X2_breakSeal_bad l D cs (ehs a 0) τ k (by omega) (by first | exact hk | (have := wnT_rng τ k; omega)) (by exact hb0) (by omega)) (cwV 1 hts gX6_tamper_X2_breakSeal rfl rfl rfl (by decide +kernel) ⟨(Nat.le_of_ble_eq_true rfl), (Nat.le_of_ble_eq_true rfl)⟩) (x_rc hK (hsAt_0 (hAt_hs (eAt_H hE))) rfl) (eAt_H hE) rfl hl.1 (Nat.le_of_ble_eq_true rfl) dX6_tamper_20 ⟨Nat.zero_le _, Nat.zero_le _⟩ ?_
  refine x_callVR (As := [.int (zI (wnT τ k))]) (rest := []) S hK (c_X1_settle_bad l D cs a τ ss (upH hh fr (cpH (hh fr) τ)) pr pd ln fr kp su (wnT τ k) (by first | exact hk | (have := wnT_rng τ k; omega)) (by omega)) (cwV 1 hts gX6_tamper_X1_settle rfl rfl rfl (by decide +kernel) ⟨(Nat.le_of_ble_eq_true rfl), (Nat.le_of_ble_eq_true rfl)⟩) (x_rc hK (eAt_4 hE) rfl) hE rfl hl.1 (Nat.le_of_ble_eq_true rfl) dX6_tamper_23 ⟨Nat.zero_le _, Nat.zero_le _⟩ ?_
  exact x_iretM hx hb hr hlocks (by first | rfl | omega) hE hS dX6_tamper_26
set_option maxHeartbeats 4000000 in
set_option maxRecDepth 100000 in
theorem c_X6_tamper_ok (l : Launch) (D : va_G) (cs : Nat → ClassId) (a : Int → Nat) (τ : Int → Int) (ss : Int → Int → Int) (hh : Int → Int → Int) (pr : Int → Int) (pd : Int → Int) (ln : Int) (fr : Int) (kp : Int) (su : Int → Int) (k : Int) (hI : eI a) (hfr : 0 ≤ fr ∧ fr < 7) (hg : gOK τ 0) (hk : -2147483648 ≤ k ∧ k < 2147483648) (hb0 : 0 ≤ k → k < τ 7 → τ (11 + 13 * k + 7) = 0 ∨ τ (11 + 13 * k + 7) = 1) (hkp : 0 ≤ kp ∧ kp ≤ 6) (hn : wnT τ k = 0) (h0 : 0 ≤ τ (11 + 13 * k + 6) ∧ τ (11 + 13 * k + 6) < 2147483648) : kM D cs l yX6_tamper wsX6_tamper ({ frames := 3, cells := 0, slots := 0, locals := 64 } : Room) [.ref (a 0), .int (zI k)] (fun H => eAt D cs a τ ss hh pr pd ln fr kp su H) (some (.int (zI (τ (11 + 13 * k + 6))))) (fun H => eAt D cs a (bsF τ k) ss (upH hh fr (cpH (hh fr) τ)) pr pd ln ((fr + 1) % 7) (min 6 (kp + 1)) su H) (eC a) := by
  refine Met.ofW (cc := cX6_tamper) (maxL := 2) (ret := (some .int)) (by decide) rfl ?_
  intro p e s m args below meth c s₁ B hml hv
  obtain ⟨rfl, hK, hE⟩ := hv
  have hx := B.exec
  have hb := B.bytes
  have hr := B.returns
  have hts := atoms_spec (ws := wsX6_tamper) B.pre
  have hown : s.vm.findClass RX6 = some m.cls := findClass_of_methodNamed B.named
  have hlocks := B.notSynchronized
  have S : CallFix p m c cX6_tamper 2 s (([.ref (a 0), .int (zI k)] : List Value)).toArray wsX6_tamper RX6 := ⟨hx, hb, hml, hown, hts⟩
  have hin6 : ∀ w ∈ wsX60, w ∈ wsX6_tamper := by decide +kernel
  have hS : va_S (eC a) s.heap s.heap [] := va_S.rf
  have hl := lv_entry ([.ref (a 0), .int (zI k)]) (n := 2) (Nat.le_of_ble_eq_true rfl)
  rw [lg_entry_eq]
  generalize (lg_sl ([.ref (a 0), .int (zI k)]) ++ List.replicate (2 - (lg_sl ([.ref (a 0), .int (zI k)])).length) Slot.unset).toArray = ls at hl ⊢
  have hl : lv_has ls 2 [(0, .ref (a 0)), (1, .int (zI k))] := hl
  have h7 := hg.1.1
  have h8 := hg.1.2.1
  refine lv_aload_n hx hb dX6_tamper_0 rfl (lv_at hl 0 rfl) ?_
  refine e_g_history S hin6 hK hE (hts (.fieldLink RX6 33 "EnergyDiscs" "history" "LEnergyDiscs$History;") (by decide +kernel)) dX6_tamper_1 ?_
  refine lv_aload_n hx hb dX6_tamper_4 rfl (lv_at hl 0 rfl) ?_
  refine e_g_house S hin6 hK hE (hts (.fieldLink RX6 10 "EnergyDiscs" "house" "LEnergyDiscs$House;") (by decide +kernel)) dX6_tamper_5 ?_
  refine x_callVMn (As := [.ref (ehs a 0 0)]) (rest := []) S hK (c_X1_prepare l D cs a τ ss hh pr pd ln fr kp su (by first | exact hI | exact eI_H hI (by omega)) (by omega) (by exact hg)) (cwV 1 hts gX6_tamper_X1_prepare rfl rfl rfl (by decide +kernel) ⟨(Nat.le_of_ble_eq_true rfl), (Nat.le_of_ble_eq_true rfl)⟩) (x_rc hK (eAt_4 hE) rfl) hE rfl hl.1 (Nat.le_of_ble_eq_true rfl) dX6_tamper_8 ⟨Nat.zero_le _, Nat.zero_le _⟩ hS (fun q hq => hq) (fun H locs hB hF hS => ?_)
  have hE : eAt D cs a τ ss (upH hh fr (cpH (hh fr) τ)) pr pd ln fr kp su H := hB
  refine lv_aload_n hx hb dX6_tamper_11 rfl (lv_at hl 0 rfl) ?_
  refine e_g_history S hin6 hK hE (hts (.fieldLink RX6 33 "EnergyDiscs" "history" "LEnergyDiscs$History;") (by decide +kernel)) dX6_tamper_12 ?_
  refine lv_aload_n hx hb dX6_tamper_15 rfl (lv_at hl 0 rfl) ?_
  refine e_g_house S hin6 hK hE (hts (.fieldLink RX6 10 "EnergyDiscs" "house" "LEnergyDiscs$House;") (by decide +kernel)) dX6_tamper_16 ?_
  refine lv_iload_n hx hb dX6_tamper_19 rfl (lv_at hl 1 rfl) ?_
  refine x_callVM (As := [.int (zI k)]) (rest := [.ref (a 4)]) S hK (c_X2_breakSeal_ok l D cs (ehs a 0) τ k (by omega) (by omega) (by exact hb0) (by omega) (by first | exact hI | exact eI_H hI (by omega))) (cwV 1 hts gX6_tamper_X2_breakSeal rfl rfl rfl (by decide +kernel) ⟨(Nat.le_of_ble_eq_true rfl), (Nat.le_of_ble_eq_true rfl)⟩) (x_rc hK (hsAt_0 (hAt_hs (eAt_H hE))) rfl) (eAt_H hE) rfl hl.1 (Nat.le_of_ble_eq_true rfl) dX6_tamper_20 ⟨Nat.zero_le _, Nat.zero_le _⟩ hS (eC_H (by decide)) (fun H locs hB hF hS => ?_)
  have hE : eAt D cs a (bsF τ k) ss (upH hh fr (cpH (hh fr) τ)) pr pd ln fr kp su H := eAt_setH hE hI hB hF
  refine x_callVM (As := [.int (zI (τ (11 + 13 * k + 6)))]) (rest := []) S hK (c_X1_settle_ok l D cs a (bsF τ k) ss (upH hh fr (cpH (hh fr) τ)) pr pd ln fr kp su (τ (11 + 13 * k + 6)) (by omega) (by omega) (by first | exact hI | exact eI_H hI (by omega)) (by omega) (by omega)) (cwV 1 hts gX6_tamper_X1_settle rfl rfl rfl (by decide +kernel) ⟨(Nat.le_of_ble_eq_true rfl), (Nat.le_of_ble_eq_true rfl)⟩) (x_rc hK (eAt_4 hE) rfl) hE rfl hl.1 (Nat.le_of_ble_eq_true rfl) dX6_tamper_23 ⟨Nat.zero_le _, Nat.zero_le _⟩ hS (fun q hq => hq) (fun H locs hB hF hS => ?_)
  have hE : eAt D cs a (bsF τ k) ss (upH hh fr (cpH (hh fr) τ)) pr pd ln ((fr + 1) % 7) (min 6 (kp + 1)) su H := hB
  exact x_iretM hx hb hr hlocks (by first | rfl | omega) hE hS dX6_tamper_26
set_option maxHeartbeats 4000000 in
set_option maxRecDepth 100000 in
theorem c_X6_visit_bad (l : Launch) (D : va_G) (cs : Nat → ClassId) (a : Int → Nat) (τ : Int → Int) (ss : Int → Int → Int) (hh : Int → Int → Int) (pr : Int → Int) (pd : Int → Int) (ln : Int) (fr : Int) (kp : Int) (su : Int → Int) (k : Int) (hI : eI a) (hfr : 0 ≤ fr ∧ fr < 7) (hg : gOK τ 0) (hk : -2147483648 ≤ k ∧ k < 2147483648) (hn : ¬ (0 ≤ k ∧ k < τ 7)) : kM D cs l yX6_visit wsX6_visit ({ frames := 3, cells := 0, slots := 0, locals := 64 } : Room) [.ref (a 0), .int (zI k)] (fun H => eAt D cs a τ ss hh pr pd ln fr kp su H) (some (.int (zI (-1)))) (fun H => eAt D cs a τ ss (upH hh fr (cpH (hh fr) τ)) pr pd ln fr kp su H) (eC a) := by
  refine Met.ofW (cc := cX6_visit) (maxL := 2) (ret := (some .int)) (by decide) rfl ?_
  intro p e s m args below meth c s₁ B hml hv
  obtain ⟨rfl, hK, hE⟩ := hv
  have hx := B.exec
  have hb := B.bytes
  have hr := B.returns
  have hts := atoms_spec (ws := wsX6_visit) B.pre
  have hown : s.vm.findClass RX6 = some m.cls := findClass_of_methodNamed B.named
  have hlocks := B.notSynchronized
  have S : CallFix p m c cX6_visit 2 s (([.ref (a 0), .int (zI k)] : List Value)).toArray wsX6_visit RX6 := ⟨hx, hb, hml, hown, hts⟩
  have hin6 : ∀ w ∈ wsX60, w ∈ wsX6_visit := by decide +kernel
  have hS : va_S (eC a) s.heap s.heap [] := va_S.rf
  have hl := lv_entry ([.ref (a 0), .int (zI k)]) (n := 2) (Nat.le_of_ble_eq_true rfl)
  rw [lg_entry_eq]
  generalize (lg_sl ([.ref (a 0), .int (zI k)]) ++ List.replicate (2 - (lg_sl ([.ref (a 0), .int (zI k)])).length) Slot.unset).toArray = ls at hl ⊢
  have hl : lv_has ls 2 [(0, .ref (a 0)), (1, .int (zI k))] := hl
  have h7 := hg.1.1
  have h8 := hg.1.2.1
  refine lv_aload_n hx hb dX6_visit_0 rfl (lv_at hl 0 rfl) ?_
  refine e_g_history S hin6 hK hE (hts (.fieldLink RX6 33 "EnergyDiscs" "history" "LEnergyDiscs$History;") (by decide +kernel)) dX6_visit_1 ?_
  refine lv_aload_n hx hb dX6_visit_4 rfl (lv_at hl 0 rfl) ?_
  refine e_g_house S hin6 hK hE (hts (.fieldLink RX6 10 "EnergyDiscs" "house" "LEnergyDiscs$House;") (by decide +kernel)) dX6_visit_5 ?_
  refine x_callVMn (As := [.ref (ehs a 0 0)]) (rest := []) S hK (c_X1_prepare l D cs a τ ss hh pr pd ln fr kp su (by first | exact hI | exact eI_H hI (by omega)) (by omega) (by exact hg)) (cwV 1 hts gX6_visit_X1_prepare rfl rfl rfl (by decide +kernel) ⟨(Nat.le_of_ble_eq_true rfl), (Nat.le_of_ble_eq_true rfl)⟩) (x_rc hK (eAt_4 hE) rfl) hE rfl hl.1 (Nat.le_of_ble_eq_true rfl) dX6_visit_8 ⟨Nat.zero_le _, Nat.zero_le _⟩ hS (fun q hq => hq) (fun H locs hB hF hS => ?_)
  have hE : eAt D cs a τ ss (upH hh fr (cpH (hh fr) τ)) pr pd ln fr kp su H := hB
  refine lv_aload_n hx hb dX6_visit_11 rfl (lv_at hl 0 rfl) ?_
  refine e_g_history S hin6 hK hE (hts (.fieldLink RX6 33 "EnergyDiscs" "history" "LEnergyDiscs$History;") (by decide +kernel)) dX6_visit_12 ?_
  refine lv_aload_n hx hb dX6_visit_15 rfl (lv_at hl 0 rfl) ?_
  refine e_g_house S hin6 hK hE (hts (.fieldLink RX6 10 "EnergyDiscs" "house" "LEnergyDiscs$House;") (by decide +kernel)) dX6_visit_16 ?_
  refine lv_iload_n hx hb dX6_visit_19 rfl (lv_at hl 1 rfl) ?_
  refine x_callVR (As := [.int (zI k)]) (rest := [.ref (a 4)]) S hK (c_X2_inspect_bad l D cs (ehs a 0) τ k (by omega) (by omega) (by omega)) (cwV 1 hts gX6_visit_X2_inspect rfl rfl rfl (by decide +kernel) ⟨(Nat.le_of_ble_eq_true rfl), (Nat.le_of_ble_eq_true rfl)⟩) (x_rc hK (hsAt_0 (hAt_hs (eAt_H hE))) rfl) (eAt_H hE) rfl hl.1 (Nat.le_of_ble_eq_true rfl) dX6_visit_20 ⟨Nat.zero_le _, Nat.zero_le _⟩ ?_
  refine x_callVR (As := [.int (zI (-1))]) (rest := []) S hK (c_X1_settle_bad l D cs a τ ss (upH hh fr (cpH (hh fr) τ)) pr pd ln fr kp su (-1) (by omega) (by omega)) (cwV 1 hts gX6_visit_X1_settle rfl rfl rfl (by decide +kernel) ⟨(Nat.le_of_ble_eq_true rfl), (Nat.le_of_ble_eq_true rfl)⟩) (x_rc hK (eAt_4 hE) rfl) hE rfl hl.1 (Nat.le_of_ble_eq_true rfl) dX6_visit_23 ⟨Nat.zero_le _, Nat.zero_le _⟩ ?_
  exact x_iretM hx hb hr hlocks (by first | rfl | omega) hE hS dX6_visit_26
set_option maxHeartbeats 4000000 in
set_option maxRecDepth 100000 in
theorem c_X6_visit_ok (l : Launch) (D : va_G) (cs : Nat → ClassId) (a : Int → Nat) (τ : Int → Int) (ss : Int → Int → Int) (hh : Int → Int → Int) (pr : Int → Int) (pd : Int → Int) (ln : Int) (fr : Int) (kp : Int) (su : Int → Int) (k : Int) (hI : eI a) (hfr : 0 ≤ fr ∧ fr < 7) (hg : gOK τ 0) (hk : -2147483648 ≤ k ∧ k < 2147483648) (hkp : 0 ≤ kp ∧ kp ≤ 6) (hkk : (0 ≤ k ∧ k < τ 7)) (h0 : 0 ≤ owS (mrec τ k) τ ∧ owS (mrec τ k) τ < 2147483648) : kM D cs l yX6_visit wsX6_visit ({ frames := 3, cells := 0, slots := 0, locals := 64 } : Room) [.ref (a 0), .int (zI k)] (fun H => eAt D cs a τ ss hh pr pd ln fr kp su H) (some (.int (zI (owS (mrec τ k) τ)))) (fun H => eAt D cs a (inF τ k) ss (upH hh fr (cpH (hh fr) τ)) pr pd ln ((fr + 1) % 7) (min 6 (kp + 1)) su H) (eC a) := by
  refine Met.ofW (cc := cX6_visit) (maxL := 2) (ret := (some .int)) (by decide) rfl ?_
  intro p e s m args below meth c s₁ B hml hv
  obtain ⟨rfl, hK, hE⟩ := hv
  have hx := B.exec
  have hb := B.bytes
  have hr := B.returns
  have hts := atoms_spec (ws := wsX6_visit) B.pre
  have hown : s.vm.findClass RX6 = some m.cls := findClass_of_methodNamed B.named
  have hlocks := B.notSynchronized
  have S : CallFix p m c cX6_visit 2 s (([.ref (a 0), .int (zI k)] : List Value)).toArray wsX6_visit RX6 := ⟨hx, hb, hml, hown, hts⟩
  have hin6 : ∀ w ∈ wsX60, w ∈ wsX6_visit := by decide +kernel
  have hS : va_S (eC a) s.heap s.heap [] := va_S.rf
  have hl := lv_entry ([.ref (a 0), .int (zI k)]) (n := 2) (Nat.le_of_ble_eq_true rfl)
  rw [lg_entry_eq]
  generalize (lg_sl ([.ref (a 0), .int (zI k)]) ++ List.replicate (2 - (lg_sl ([.ref (a 0), .int (zI k)])).length) Slot.unset).toArray = ls at hl ⊢
  have hl : lv_has ls 2 [(0, .ref (a 0)), (1, .int (zI k))] := hl
  have h7 := hg.1.1
  have h8 := hg.1.2.1
  refine lv_aload_n hx hb dX6_visit_0 rfl (lv_at hl 0 rfl) ?_
  refine e_g_history S hin6 hK hE (hts (.fieldLink RX6 33 "EnergyDiscs" "history" "LEnergyDiscs$History;") (by decide +kernel)) dX6_visit_1 ?_
  refine lv_aload_n hx hb dX6_visit_4 rfl (lv_at hl 0 rfl) ?_
  refine e_g_house S hin6 hK hE (hts (.fieldLink RX6 10 "EnergyDiscs" "house" "LEnergyDiscs$House;") (by decide +kernel)) dX6_visit_5 ?_
  refine x_callVMn (As := [.ref (ehs a 0 0)]) (rest := []) S hK (c_X1_prepare l D cs a τ ss hh pr pd ln fr kp su (by first | exact hI | exact eI_H hI (by omega)) (by omega) (by exact hg)) (cwV 1 hts gX6_visit_X1_prepare rfl rfl rfl (by decide +kernel) ⟨(Nat.le_of_ble_eq_true rfl), (Nat.le_of_ble_eq_true rfl)⟩) (x_rc hK (eAt_4 hE) rfl) hE rfl hl.1 (Nat.le_of_ble_eq_true rfl) dX6_visit_8 ⟨Nat.zero_le _, Nat.zero_le _⟩ hS (fun q hq => hq) (fun H locs hB hF hS => ?_)
  have hE : eAt D cs a τ ss (upH hh fr (cpH (hh fr) τ)) pr pd ln fr kp su H := hB
  refine lv_aload_n hx hb dX6_visit_11 rfl (lv_at hl 0 rfl) ?_
  refine e_g_history S hin6 hK hE (hts (.fieldLink RX6 33 "EnergyDiscs" "history" "LEnergyDiscs$History;") (by decide +kernel)) dX6_visit_12 ?_
  refine lv_aload_n hx hb dX6_visit_15 rfl (lv_at hl 0 rfl) ?_
  refine e_g_house S hin6 hK hE (hts (.fieldLink RX6 10 "EnergyDiscs" "house" "LEnergyDiscs$House;") (by decide +kernel)) dX6_visit_16 ?_
  refine lv_iload_n hx hb dX6_visit_19 rfl (lv_at hl 1 rfl) ?_
  refine x_callVM (As := [.int (zI k)]) (rest := [.ref (a 4)]) S hK (c_X2_inspect_ok l D cs (ehs a 0) τ k (by omega) (by omega) (by exact (dOK_0 (hg.2.2 k hkk.1 hkk.2)).2.2.2) (by first | exact hI | exact eI_H hI (by omega))) (cwV 1 hts gX6_visit_X2_inspect rfl rfl rfl (by decide +kernel) ⟨(Nat.le_of_ble_eq_true rfl), (Nat.le_of_ble_eq_true rfl)⟩) (x_rc hK (hsAt_0 (hAt_hs (eAt_H hE))) rfl) (eAt_H hE) rfl hl.1 (Nat.le_of_ble_eq_true rfl) dX6_visit_20 ⟨Nat.zero_le _, Nat.zero_le _⟩ hS (eC_H (by decide)) (fun H locs hB hF hS => ?_)
  have hE : eAt D cs a (inF τ k) ss (upH hh fr (cpH (hh fr) τ)) pr pd ln fr kp su H := eAt_setH hE hI hB hF
  refine x_callVM (As := [.int (zI (owS (mrec τ k) τ))]) (rest := []) S hK (c_X1_settle_ok l D cs a (inF τ k) ss (upH hh fr (cpH (hh fr) τ)) pr pd ln fr kp su (owS (mrec τ k) τ) (by omega) (by omega) (by first | exact hI | exact eI_H hI (by omega)) (by omega) (by omega)) (cwV 1 hts gX6_visit_X1_settle rfl rfl rfl (by decide +kernel) ⟨(Nat.le_of_ble_eq_true rfl), (Nat.le_of_ble_eq_true rfl)⟩) (x_rc hK (eAt_4 hE) rfl) hE rfl hl.1 (Nat.le_of_ble_eq_true rfl) dX6_visit_23 ⟨Nat.zero_le _, Nat.zero_le _⟩ hS (fun q hq => hq) (fun H locs hB hF hS => ?_)
  have hE : eAt D cs a (inF τ k) ss (upH hh fr (cpH (hh fr) τ)) pr pd ln ((fr + 1) % 7) (min 6 (kp + 1)) su H := hB
  exact x_iretM hx hb hr hlocks (by first | rfl | omega) hE hS dX6_visit_26
set_option maxHeartbeats 4000000 in
set_option maxRecDepth 100000 in
theorem c_X6_pass_bad (l : Launch) (D : va_G) (cs : Nat → ClassId) (a : Int → Nat) (τ : Int → Int) (ss : Int → Int → Int) (hh : Int → Int → Int) (pr : Int → Int) (pd : Int → Int) (ln : Int) (fr : Int) (kp : Int) (su : Int → Int) (w : Int) (hI : eI a) (hfr : 0 ≤ fr ∧ fr < 7) (hg : gOK τ 0) (hw : -2147483648 ≤ w ∧ w < 2147483648) (hn : wnP τ w < 0) : kM D cs l yX6_pass wsX6_pass ({ frames := 5, cells := 0, slots := 0, locals := 121 } : Room) [.ref (a 0), .int (zI w)] (fun H => eAt D cs a τ ss hh pr pd ln fr kp su H) (some (.int (zI (wnP τ w)))) (fun H => eAt D cs a τ ss (upH hh fr (cpH (hh fr) τ)) pr pd ln fr kp su H) (eC a) := by
  refine Met.ofW (cc := cX6_pass) (maxL := 2) (ret := (some .int)) (by decide) rfl ?_
  intro p e s m args below meth c s₁ B hml hv
  obtain ⟨rfl, hK, hE⟩ := hv
  have hx := B.exec
  have hb := B.bytes
  have hr := B.returns
  have hts := atoms_spec (ws := wsX6_pass) B.pre
  have hown : s.vm.findClass RX6 = some m.cls := findClass_of_methodNamed B.named
  have hlocks := B.notSynchronized
  have S : CallFix p m c cX6_pass 2 s (([.ref (a 0), .int (zI w)] : List Value)).toArray wsX6_pass RX6 := ⟨hx, hb, hml, hown, hts⟩
  have hin6 : ∀ w ∈ wsX60, w ∈ wsX6_pass := by decide +kernel
  have hS : va_S (eC a) s.heap s.heap [] := va_S.rf
  have hl := lv_entry ([.ref (a 0), .int (zI w)]) (n := 2) (Nat.le_of_ble_eq_true rfl)
  rw [lg_entry_eq]
  generalize (lg_sl ([.ref (a 0), .int (zI w)]) ++ List.replicate (2 - (lg_sl ([.ref (a 0), .int (zI w)])).length) Slot.unset).toArray = ls at hl ⊢
  have hl : lv_has ls 2 [(0, .ref (a 0)), (1, .int (zI w))] := hl
  have h7 := hg.1.1
  have h8 := hg.1.2.1
  refine lv_aload_n hx hb dX6_pass_0 rfl (lv_at hl 0 rfl) ?_
  refine e_g_history S hin6 hK hE (hts (.fieldLink RX6 33 "EnergyDiscs" "history" "LEnergyDiscs$History;") (by decide +kernel)) dX6_pass_1 ?_
  refine lv_aload_n hx hb dX6_pass_4 rfl (lv_at hl 0 rfl) ?_
  refine e_g_house S hin6 hK hE (hts (.fieldLink RX6 10 "EnergyDiscs" "house" "LEnergyDiscs$House;") (by decide +kernel)) dX6_pass_5 ?_
  refine x_callVMn (As := [.ref (ehs a 0 0)]) (rest := []) S hK (c_X1_prepare l D cs a τ ss hh pr pd ln fr kp su (by first | exact hI | exact eI_H hI (by omega)) (by omega) (by exact hg)) (cwV 1 hts gX6_pass_X1_prepare rfl rfl rfl (by decide +kernel) ⟨(Nat.le_of_ble_eq_true rfl), (Nat.le_of_ble_eq_true rfl)⟩) (x_rc hK (eAt_4 hE) rfl) hE rfl hl.1 (Nat.le_of_ble_eq_true rfl) dX6_pass_8 ⟨Nat.zero_le _, Nat.zero_le _⟩ hS (fun q hq => hq) (fun H locs hB hF hS => ?_)
  have hE : eAt D cs a τ ss (upH hh fr (cpH (hh fr) τ)) pr pd ln fr kp su H := hB
  refine lv_aload_n hx hb dX6_pass_11 rfl (lv_at hl 0 rfl) ?_
  refine e_g_history S hin6 hK hE (hts (.fieldLink RX6 33 "EnergyDiscs" "history" "LEnergyDiscs$History;") (by decide +kernel)) dX6_pass_12 ?_
  refine lv_aload_n hx hb dX6_pass_15 rfl (lv_at hl 0 rfl) ?_
  refine e_g_house S hin6 hK hE (hts (.fieldLink RX6 10 "EnergyDiscs" "house" "LEnergyDiscs$House;") (by decide +kernel)) dX6_pass_16 ?_
  refine lv_iload_n hx hb dX6_pass_19 rfl (lv_at hl 1 rfl) ?_
  refine x_callVR (As := [.int (zI w)]) (rest := [.ref (a 4)]) S hK (c_X2_elapse_bad l D cs (ehs a 0) τ w (by omega) (by exact hg.2.1.2.2.2.2) (by omega)) (cwV 1 hts gX6_pass_X2_elapse rfl rfl rfl (by decide +kernel) ⟨(Nat.le_of_ble_eq_true rfl), (Nat.le_of_ble_eq_true rfl)⟩) (x_rc hK (hsAt_0 (hAt_hs (eAt_H hE))) rfl) (eAt_H hE) rfl hl.1 (Nat.le_of_ble_eq_true rfl) dX6_pass_20 ⟨Nat.zero_le _, Nat.zero_le _⟩ ?_
  refine x_callVR (As := [.int (zI (wnP τ w))]) (rest := []) S hK (c_X1_settle_bad l D cs a τ ss (upH hh fr (cpH (hh fr) τ)) pr pd ln fr kp su (wnP τ w) (by have := wnP_rng τ w; omega) (by omega)) (cwV 1 hts gX6_pass_X1_settle rfl rfl rfl (by decide +kernel) ⟨(Nat.le_of_ble_eq_true rfl), (Nat.le_of_ble_eq_true rfl)⟩) (x_rc hK (eAt_4 hE) rfl) hE rfl hl.1 (Nat.le_of_ble_eq_true rfl) dX6_pass_23 ⟨Nat.zero_le _, Nat.zero_le _⟩ ?_
  exact x_iretM hx hb hr hlocks (by first | rfl | omega) hE hS dX6_pass_26
set_option maxHeartbeats 4000000 in
set_option maxRecDepth 100000 in
theorem c_X6_pass_ok (l : Launch) (D : va_G) (cs : Nat → ClassId) (a : Int → Nat) (τ : Int → Int) (ss : Int → Int → Int) (hh : Int → Int → Int) (pr : Int → Int) (pd : Int → Int) (ln : Int) (fr : Int) (kp : Int) (su : Int → Int) (w : Int) (hI : eI a) (hfr : 0 ≤ fr ∧ fr < 7) (hg : gOK τ 0) (hw : -2147483648 ≤ w ∧ w < 2147483648) (hkp : 0 ≤ kp ∧ kp ≤ 6) (hn : wnP τ w = 0) (h0 : 0 ≤ elT τ w.toNat (τ 7).toNat ∧ elT τ w.toNat (τ 7).toNat < 2147483648) : kM D cs l yX6_pass wsX6_pass ({ frames := 5, cells := 0, slots := 0, locals := 121 } : Room) [.ref (a 0), .int (zI w)] (fun H => eAt D cs a τ ss hh pr pd ln fr kp su H) (some (.int (zI (elT τ w.toNat (τ 7).toNat)))) (fun H => eAt D cs a (elF τ w) ss (upH hh fr (cpH (hh fr) τ)) pr pd ln ((fr + 1) % 7) (min 6 (kp + 1)) su H) (eC a) := by
  refine Met.ofW (cc := cX6_pass) (maxL := 2) (ret := (some .int)) (by decide) rfl ?_
  intro p e s m args below meth c s₁ B hml hv
  obtain ⟨rfl, hK, hE⟩ := hv
  have hx := B.exec
  have hb := B.bytes
  have hr := B.returns
  have hts := atoms_spec (ws := wsX6_pass) B.pre
  have hown : s.vm.findClass RX6 = some m.cls := findClass_of_methodNamed B.named
  have hlocks := B.notSynchronized
  have S : CallFix p m c cX6_pass 2 s (([.ref (a 0), .int (zI w)] : List Value)).toArray wsX6_pass RX6 := ⟨hx, hb, hml, hown, hts⟩
  have hin6 : ∀ w ∈ wsX60, w ∈ wsX6_pass := by decide +kernel
  have hS : va_S (eC a) s.heap s.heap [] := va_S.rf
  have hl := lv_entry ([.ref (a 0), .int (zI w)]) (n := 2) (Nat.le_of_ble_eq_true rfl)
  rw [lg_entry_eq]
  generalize (lg_sl ([.ref (a 0), .int (zI w)]) ++ List.replicate (2 - (lg_sl ([.ref (a 0), .int (zI w)])).length) Slot.unset).toArray = ls at hl ⊢
  have hl : lv_has ls 2 [(0, .ref (a 0)), (1, .int (zI w))] := hl
  have h7 := hg.1.1
  have h8 := hg.1.2.1
  refine lv_aload_n hx hb dX6_pass_0 rfl (lv_at hl 0 rfl) ?_
  refine e_g_history S hin6 hK hE (hts (.fieldLink RX6 33 "EnergyDiscs" "history" "LEnergyDiscs$History;") (by decide +kernel)) dX6_pass_1 ?_
  refine lv_aload_n hx hb dX6_pass_4 rfl (lv_at hl 0 rfl) ?_
  refine e_g_house S hin6 hK hE (hts (.fieldLink RX6 10 "EnergyDiscs" "house" "LEnergyDiscs$House;") (by decide +kernel)) dX6_pass_5 ?_
  refine x_callVMn (As := [.ref (ehs a 0 0)]) (rest := []) S hK (c_X1_prepare l D cs a τ ss hh pr pd ln fr kp su (by first | exact hI | exact eI_H hI (by omega)) (by omega) (by exact hg)) (cwV 1 hts gX6_pass_X1_prepare rfl rfl rfl (by decide +kernel) ⟨(Nat.le_of_ble_eq_true rfl), (Nat.le_of_ble_eq_true rfl)⟩) (x_rc hK (eAt_4 hE) rfl) hE rfl hl.1 (Nat.le_of_ble_eq_true rfl) dX6_pass_8 ⟨Nat.zero_le _, Nat.zero_le _⟩ hS (fun q hq => hq) (fun H locs hB hF hS => ?_)
  have hE : eAt D cs a τ ss (upH hh fr (cpH (hh fr) τ)) pr pd ln fr kp su H := hB
  refine lv_aload_n hx hb dX6_pass_11 rfl (lv_at hl 0 rfl) ?_
  refine e_g_history S hin6 hK hE (hts (.fieldLink RX6 33 "EnergyDiscs" "history" "LEnergyDiscs$History;") (by decide +kernel)) dX6_pass_12 ?_
  refine lv_aload_n hx hb dX6_pass_15 rfl (lv_at hl 0 rfl) ?_
  refine e_g_house S hin6 hK hE (hts (.fieldLink RX6 10 "EnergyDiscs" "house" "LEnergyDiscs$House;") (by decide +kernel)) dX6_pass_16 ?_
  refine lv_iload_n hx hb dX6_pass_19 rfl (lv_at hl 1 rfl) ?_
  refine x_callVM (As := [.int (zI w)]) (rest := [.ref (a 4)]) S hK (c_X2_elapse_ok l D cs (ehs a 0) τ w (by omega) (by exact hg) (by omega) (by first | exact hI | exact eI_H hI (by omega))) (cwV 1 hts gX6_pass_X2_elapse rfl rfl rfl (by decide +kernel) ⟨(Nat.le_of_ble_eq_true rfl), (Nat.le_of_ble_eq_true rfl)⟩) (x_rc hK (hsAt_0 (hAt_hs (eAt_H hE))) rfl) (eAt_H hE) rfl hl.1 (Nat.le_of_ble_eq_true rfl) dX6_pass_20 ⟨Nat.zero_le _, Nat.zero_le _⟩ hS (eC_H (by decide)) (fun H locs hB hF hS => ?_)
  have hE : eAt D cs a (elF τ w) ss (upH hh fr (cpH (hh fr) τ)) pr pd ln fr kp su H := eAt_setH hE hI hB hF
  refine x_callVM (As := [.int (zI (elT τ w.toNat (τ 7).toNat))]) (rest := []) S hK (c_X1_settle_ok l D cs a (elF τ w) ss (upH hh fr (cpH (hh fr) τ)) pr pd ln fr kp su (elT τ w.toNat (τ 7).toNat) (by omega) (by omega) (by first | exact hI | exact eI_H hI (by omega)) (by omega) (by omega)) (cwV 1 hts gX6_pass_X1_settle rfl rfl rfl (by decide +kernel) ⟨(Nat.le_of_ble_eq_true rfl), (Nat.le_of_ble_eq_true rfl)⟩) (x_rc hK (eAt_4 hE) rfl) hE rfl hl.1 (Nat.le_of_ble_eq_true rfl) dX6_pass_23 ⟨Nat.zero_le _, Nat.zero_le _⟩ hS (fun q hq => hq) (fun H locs hB hF hS => ?_)
  have hE : eAt D cs a (elF τ w) ss (upH hh fr (cpH (hh fr) τ)) pr pd ln ((fr + 1) % 7) (min 6 (kp + 1)) su H := hB
  exact x_iretM hx hb hr hlocks (by first | rfl | omega) hE hS dX6_pass_26
set_option maxHeartbeats 4000000 in
set_option maxRecDepth 100000 in
theorem c_X6_write_bad (l : Launch) (D : va_G) (cs : Nat → ClassId) (a : Int → Nat) (τ : Int → Int) (ss : Int → Int → Int) (hh : Int → Int → Int) (pr : Int → Int) (pd : Int → Int) (ln : Int) (fr : Int) (kp : Int) (su : Int → Int) (k : Int) (hg : gOK τ 0) (hk : -2147483648 ≤ k ∧ k < 2147483648) (hn : ¬ (0 ≤ k ∧ k < τ 7)) : kR D cs l yX6_write wsX6_write ({ frames := 1, cells := 0, slots := 0, locals := 24 } : Room) [.ref (a 0), .int (zI k)] (fun H => eAt D cs a τ ss hh pr pd ln fr kp su H) (some (.int (zI (-1)))) := by
  refine Met.ofW (cc := cX6_write) (maxL := 3) (ret := (some .int)) (by decide) rfl ?_
  intro p e s m args below meth c s₁ B hml hv
  obtain ⟨rfl, hK, hE⟩ := hv
  have hx := B.exec
  have hb := B.bytes
  have hr := B.returns
  have hts := atoms_spec (ws := wsX6_write) B.pre
  have hown : s.vm.findClass RX6 = some m.cls := findClass_of_methodNamed B.named
  have hlocks := B.notSynchronized
  have S : CallFix p m c cX6_write 3 s (([.ref (a 0), .int (zI k)] : List Value)).toArray wsX6_write RX6 := ⟨hx, hb, hml, hown, hts⟩
  have hin4 : ∀ w ∈ wsX40, w ∈ wsX6_write := by decide +kernel
  have hin5 : ∀ w ∈ wsX50, w ∈ wsX6_write := by decide +kernel
  have hin6 : ∀ w ∈ wsX60, w ∈ wsX6_write := by decide +kernel
  have hl := lv_entry ([.ref (a 0), .int (zI k)]) (n := 3) (Nat.le_of_ble_eq_true rfl)
  rw [lg_entry_eq]
  generalize (lg_sl ([.ref (a 0), .int (zI k)]) ++ List.replicate (3 - (lg_sl ([.ref (a 0), .int (zI k)])).length) Slot.unset).toArray = ls at hl ⊢
  have hl : lv_has ls 3 [(0, .ref (a 0)), (1, .int (zI k))] := hl
  have h7 := hg.1.1
  have h8 := hg.1.2.1
  refine lv_aload_n hx hb dX6_write_0 rfl (lv_at hl 0 rfl) ?_
  refine e_g_house S hin6 hK hE (hts (.fieldLink RX6 10 "EnergyDiscs" "house" "LEnergyDiscs$House;") (by decide +kernel)) dX6_write_1 ?_
  refine lv_iload_n hx hb dX6_write_4 rfl (lv_at hl 1 rfl) ?_
  refine x_callVR (As := [.int (zI k)]) (rest := []) S hK (c_X2_meterAt_no l D cs (ehs a 0) τ k (by omega) (by omega) (by omega)) (cwV 1 hts gX6_write_X2_meterAt rfl rfl rfl (by decide +kernel) ⟨(Nat.le_of_ble_eq_true rfl), (Nat.le_of_ble_eq_true rfl)⟩) (x_rc hK (hsAt_0 (hAt_hs (eAt_H hE))) rfl) (eAt_H hE) rfl hl.1 (Nat.le_of_ble_eq_true rfl) dX6_write_5 ⟨Nat.zero_le _, Nat.zero_le _⟩ ?_
  refine lv_astore_nN (lv' := [(2, .null), (0, .ref (a 0)), (1, .int (zI k))]) hx hb dX6_write_8 rfl hl (by decide) rfl (fun ls hl => ?_)
  refine lv_aload_nN hx hb dX6_write_9 rfl (lv_at hl 0 rfl) ?_
  refine lv_ifnonnullN hx hb dX6_write_10 ?_
  refine x_iconst hx hb dX6_write_13 ?_
  exact x_iretR hx hb hr hlocks (by first | rfl | omega) rfl dX6_write_14
set_option maxHeartbeats 4000000 in
set_option maxRecDepth 100000 in
theorem c_X6_write_ok (l : Launch) (D : va_G) (cs : Nat → ClassId) (a : Int → Nat) (τ : Int → Int) (ss : Int → Int → Int) (hh : Int → Int → Int) (pr : Int → Int) (pd : Int → Int) (ln : Int) (fr : Int) (kp : Int) (su : Int → Int) (k : Int) (hI : eI a) (hg : gOK τ 0) (hk : (0 ≤ k ∧ k < τ 7)) (hd3 : 0 ≤ τ (11 + 13 * k + 3) ∧ τ (11 + 13 * k + 3) < 2147483648) (hd4 : 0 ≤ τ (11 + 13 * k + 4) ∧ τ (11 + 13 * k + 4) < 2147483648) (hd6 : 0 ≤ τ (11 + 13 * k + 6) ∧ τ (11 + 13 * k + 6) < 2147483648) (hd7 : τ (11 + 13 * k + 7) = 0 ∨ τ (11 + 13 * k + 7) = 1) : kM D cs l yX6_write wsX6_write ({ frames := 1, cells := 0, slots := 0, locals := 24 } : Room) [.ref (a 0), .int (zI k)] (fun H => eAt D cs a τ ss hh pr pd ln fr kp su H) (some (.int (zI (wrL (τ (11 + 13 * k + 3)) (τ (11 + 13 * k + 4)) (τ (11 + 13 * k + 6)) (τ (11 + 13 * k + 7)))))) (fun H => eAt D cs a τ ss hh pr (wrP pd (τ (11 + 13 * k + 3)) (τ (11 + 13 * k + 4)) (τ (11 + 13 * k + 6)) (τ (11 + 13 * k + 7))) (wrL (τ (11 + 13 * k + 3)) (τ (11 + 13 * k + 4)) (τ (11 + 13 * k + 6)) (τ (11 + 13 * k + 7))) fr kp su H) (eC a) := by
  refine Met.ofW (cc := cX6_write) (maxL := 3) (ret := (some .int)) (by decide) rfl ?_
  intro p e s m args below meth c s₁ B hml hv
  obtain ⟨rfl, hK, hE⟩ := hv
  have hx := B.exec
  have hb := B.bytes
  have hr := B.returns
  have hts := atoms_spec (ws := wsX6_write) B.pre
  have hown : s.vm.findClass RX6 = some m.cls := findClass_of_methodNamed B.named
  have hlocks := B.notSynchronized
  have S : CallFix p m c cX6_write 3 s (([.ref (a 0), .int (zI k)] : List Value)).toArray wsX6_write RX6 := ⟨hx, hb, hml, hown, hts⟩
  have hin4 : ∀ w ∈ wsX40, w ∈ wsX6_write := by decide +kernel
  have hin5 : ∀ w ∈ wsX50, w ∈ wsX6_write := by decide +kernel
  have hin6 : ∀ w ∈ wsX60, w ∈ wsX6_write := by decide +kernel
  have hS : va_S (eC a) s.heap s.heap [] := va_S.rf
  have hl := lv_entry ([.ref (a 0), .int (zI k)]) (n := 3) (Nat.le_of_ble_eq_true rfl)
  rw [lg_entry_eq]
  generalize (lg_sl ([.ref (a 0), .int (zI k)]) ++ List.replicate (3 - (lg_sl ([.ref (a 0), .int (zI k)])).length) Slot.unset).toArray = ls at hl ⊢
  have hl : lv_has ls 3 [(0, .ref (a 0)), (1, .int (zI k))] := hl
  have h7 := hg.1.1
  have h8 := hg.1.2.1
  have n3 := ndg_le (τ (11 + 13 * k + 3))
  have n4 := ndg_le (τ (11 + 13 * k + 4))
  have n6 := ndg_le (τ (11 + 13 * k + 6))
  have l2 : wl2 (τ (11 + 13 * k + 3)) = 0 + 1 + (ndg (τ (11 + 13 * k + 3)) : Int) := rfl
  have l4 : wl4 (τ (11 + 13 * k + 3)) (τ (11 + 13 * k + 4)) = wl2 (τ (11 + 13 * k + 3)) + 1 + (ndg (τ (11 + 13 * k + 4)) : Int) := rfl
  have l6 : wl6 (τ (11 + 13 * k + 3)) (τ (11 + 13 * k + 4)) (τ (11 + 13 * k + 6)) = wl4 (τ (11 + 13 * k + 3)) (τ (11 + 13 * k + 4)) + 1 + (ndg (τ (11 + 13 * k + 6)) : Int) := rfl
  refine lv_aload_n hx hb dX6_write_0 rfl (lv_at hl 0 rfl) ?_
  refine e_g_house S hin6 hK hE (hts (.fieldLink RX6 10 "EnergyDiscs" "house" "LEnergyDiscs$House;") (by decide +kernel)) dX6_write_1 ?_
  refine lv_iload_n hx hb dX6_write_4 rfl (lv_at hl 1 rfl) ?_
  refine x_callVR (As := [.int (zI k)]) (rest := []) S hK (c_X2_meterAt_ok l D cs (ehs a 0) τ k (by omega) (by omega)) (cwV 1 hts gX6_write_X2_meterAt rfl rfl rfl (by decide +kernel) ⟨(Nat.le_of_ble_eq_true rfl), (Nat.le_of_ble_eq_true rfl)⟩) (x_rc hK (hsAt_0 (hAt_hs (eAt_H hE))) rfl) (eAt_H hE) rfl hl.1 (Nat.le_of_ble_eq_true rfl) dX6_write_5 ⟨Nat.zero_le _, Nat.zero_le _⟩ ?_
  refine lv_astore_n (lv' := [(2, .ref ((ehs a 0) (4 + k))), (0, .ref (a 0)), (1, .int (zI k))]) hx hb dX6_write_8 rfl hl (by decide) rfl (fun ls hl => ?_)
  refine lv_aload_n hx hb dX6_write_9 rfl (lv_at hl 0 rfl) ?_
  refine lv_ifnonnull (tgt := 15) hx hb dX6_write_10 (by decide) ?_
  refine lv_aload_n hx hb dX6_write_15 rfl (lv_at hl 1 rfl) ?_
  refine e_g_pad S hin6 hK hE (hts (.fieldLink RX6 26 "EnergyDiscs" "pad" "LEnergyDiscs$Pad;") (by decide +kernel)) dX6_write_16 ?_
  refine x_callVMn (As := []) (rest := []) S hK (c_X5_clear l D cs (epd a) pd ln (by exact eI_P hI)) (cwV 0 hts gX6_write_X5_clear rfl rfl rfl (by decide +kernel) ⟨(Nat.le_of_ble_eq_true rfl), (Nat.le_of_ble_eq_true rfl)⟩) (x_rc hK (pAt_0 (eAt_P hE)) rfl) (eAt_P hE) rfl hl.1 (Nat.le_of_ble_eq_true rfl) dX6_write_19 ⟨Nat.zero_le _, Nat.zero_le _⟩ hS eC_P (fun H locs hB hF hS => ?_)
  have hE : eAt D cs a τ ss hh pr pd 0 fr kp su H := eAt_setP hE hI hB hF
  refine lv_aload_n hx hb dX6_write_22 rfl (lv_at hl 1 rfl) ?_
  refine e_g_pad S hin6 hK hE (hts (.fieldLink RX6 26 "EnergyDiscs" "pad" "LEnergyDiscs$Pad;") (by decide +kernel)) dX6_write_23 ?_
  refine x_bipush hx hb dX6_write_26 (by decide +kernel) ?_
  refine x_callVMn (As := [.int (zI 100)]) (rest := []) S hK (c_X5_append l D cs (epd a) pd 0 100 (by omega) (by omega) (by exact eI_P hI)) (cwV 1 hts gX6_write_X5_append rfl rfl rfl (by decide +kernel) ⟨(Nat.le_of_ble_eq_true rfl), (Nat.le_of_ble_eq_true rfl)⟩) (x_rc hK (pAt_0 (eAt_P hE)) rfl) (eAt_P hE) rfl hl.1 (Nat.le_of_ble_eq_true rfl) dX6_write_28 ⟨Nat.zero_le _, Nat.zero_le _⟩ hS eC_P (fun H locs hB hF hS => ?_)
  have hE : eAt D cs a τ ss hh pr (up pd 0 100) (0 + 1) fr kp su H := eAt_setP hE hI hB hF
  refine lv_aload_n hx hb dX6_write_31 rfl (lv_at hl 1 rfl) ?_
  refine e_g_pad S hin6 hK hE (hts (.fieldLink RX6 26 "EnergyDiscs" "pad" "LEnergyDiscs$Pad;") (by decide +kernel)) dX6_write_32 ?_
  refine lv_aload_n hx hb dX6_write_35 rfl (lv_at hl 0 rfl) ?_
  refine hm_g_dayTurns S hin4 hK (eAt_H hE) (el := k) (by omega) (hts (.fieldLink RX6 86 "EnergyDiscs$Meter" "dayTurns" "I") (by decide +kernel)) dX6_write_36 ?_
  refine x_callVMn (As := [.int (zI (τ (11 + 13 * k + 3)))]) (rest := []) S hK (c_X5_appendNumber l D cs (epd a) (up pd 0 100) (0 + 1) (τ (11 + 13 * k + 3)) (by omega) (by omega) (by exact eI_P hI)) (cwV 1 hts gX6_write_X5_appendNumber rfl rfl rfl (by decide +kernel) ⟨(Nat.le_of_ble_eq_true rfl), (Nat.le_of_ble_eq_true rfl)⟩) (x_rc hK (pAt_0 (eAt_P hE)) rfl) (eAt_P hE) rfl hl.1 (Nat.le_of_ble_eq_true rfl) dX6_write_39 ⟨Nat.zero_le _, Nat.zero_le _⟩ hS eC_P (fun H locs hB hF hS => ?_)
  have hE : eAt D cs a τ ss hh pr (numW (up pd 0 100) (0 + 1) (τ (11 + 13 * k + 3))) ((0 + 1) + (ndg (τ (11 + 13 * k + 3)) : Int)) fr kp su H := eAt_setP hE hI hB hF
  have hE : eAt D cs a τ ss hh pr (wp2 pd (τ (11 + 13 * k + 3))) ((0 + 1) + (ndg (τ (11 + 13 * k + 3)) : Int)) fr kp su H := hE
  have hE : eAt D cs a τ ss hh pr (wp2 pd (τ (11 + 13 * k + 3))) (wl2 (τ (11 + 13 * k + 3))) fr kp su H := hE
  refine lv_aload_n hx hb dX6_write_42 rfl (lv_at hl 1 rfl) ?_
  refine e_g_pad S hin6 hK hE (hts (.fieldLink RX6 26 "EnergyDiscs" "pad" "LEnergyDiscs$Pad;") (by decide +kernel)) dX6_write_43 ?_
  refine x_bipush hx hb dX6_write_46 (by decide +kernel) ?_
  refine x_callVMn (As := [.int (zI 110)]) (rest := []) S hK (c_X5_append l D cs (epd a) (wp2 pd (τ (11 + 13 * k + 3))) (wl2 (τ (11 + 13 * k + 3))) 110 (by omega) (by omega) (by exact eI_P hI)) (cwV 1 hts gX6_write_X5_append rfl rfl rfl (by decide +kernel) ⟨(Nat.le_of_ble_eq_true rfl), (Nat.le_of_ble_eq_true rfl)⟩) (x_rc hK (pAt_0 (eAt_P hE)) rfl) (eAt_P hE) rfl hl.1 (Nat.le_of_ble_eq_true rfl) dX6_write_48 ⟨Nat.zero_le _, Nat.zero_le _⟩ hS eC_P (fun H locs hB hF hS => ?_)
  have hE : eAt D cs a τ ss hh pr (up (wp2 pd (τ (11 + 13 * k + 3))) (wl2 (τ (11 + 13 * k + 3))) 110) ((wl2 (τ (11 + 13 * k + 3))) + 1) fr kp su H := eAt_setP hE hI hB hF
  refine lv_aload_n hx hb dX6_write_51 rfl (lv_at hl 1 rfl) ?_
  refine e_g_pad S hin6 hK hE (hts (.fieldLink RX6 26 "EnergyDiscs" "pad" "LEnergyDiscs$Pad;") (by decide +kernel)) dX6_write_52 ?_
  refine lv_aload_n hx hb dX6_write_55 rfl (lv_at hl 0 rfl) ?_
  refine hm_g_nightTurns S hin4 hK (eAt_H hE) (el := k) (by omega) (hts (.fieldLink RX6 94 "EnergyDiscs$Meter" "nightTurns" "I") (by decide +kernel)) dX6_write_56 ?_
  refine x_callVMn (As := [.int (zI (τ (11 + 13 * k + 4)))]) (rest := []) S hK (c_X5_appendNumber l D cs (epd a) (up (wp2 pd (τ (11 + 13 * k + 3))) (wl2 (τ (11 + 13 * k + 3))) 110) ((wl2 (τ (11 + 13 * k + 3))) + 1) (τ (11 + 13 * k + 4)) (by omega) (by omega) (by exact eI_P hI)) (cwV 1 hts gX6_write_X5_appendNumber rfl rfl rfl (by decide +kernel) ⟨(Nat.le_of_ble_eq_true rfl), (Nat.le_of_ble_eq_true rfl)⟩) (x_rc hK (pAt_0 (eAt_P hE)) rfl) (eAt_P hE) rfl hl.1 (Nat.le_of_ble_eq_true rfl) dX6_write_59 ⟨Nat.zero_le _, Nat.zero_le _⟩ hS eC_P (fun H locs hB hF hS => ?_)
  have hE : eAt D cs a τ ss hh pr (numW (up (wp2 pd (τ (11 + 13 * k + 3))) (wl2 (τ (11 + 13 * k + 3))) 110) ((wl2 (τ (11 + 13 * k + 3))) + 1) (τ (11 + 13 * k + 4))) (((wl2 (τ (11 + 13 * k + 3))) + 1) + (ndg (τ (11 + 13 * k + 4)) : Int)) fr kp su H := eAt_setP hE hI hB hF
  have hE : eAt D cs a τ ss hh pr (wp4 pd (τ (11 + 13 * k + 3)) (τ (11 + 13 * k + 4))) (((wl2 (τ (11 + 13 * k + 3))) + 1) + (ndg (τ (11 + 13 * k + 4)) : Int)) fr kp su H := hE
  have hE : eAt D cs a τ ss hh pr (wp4 pd (τ (11 + 13 * k + 3)) (τ (11 + 13 * k + 4))) (wl4 (τ (11 + 13 * k + 3)) (τ (11 + 13 * k + 4))) fr kp su H := hE
  refine lv_aload_n hx hb dX6_write_62 rfl (lv_at hl 1 rfl) ?_
  refine e_g_pad S hin6 hK hE (hts (.fieldLink RX6 26 "EnergyDiscs" "pad" "LEnergyDiscs$Pad;") (by decide +kernel)) dX6_write_63 ?_
  refine x_bipush hx hb dX6_write_66 (by decide +kernel) ?_
  refine x_callVMn (As := [.int (zI 35)]) (rest := []) S hK (c_X5_append l D cs (epd a) (wp4 pd (τ (11 + 13 * k + 3)) (τ (11 + 13 * k + 4))) (wl4 (τ (11 + 13 * k + 3)) (τ (11 + 13 * k + 4))) 35 (by omega) (by omega) (by exact eI_P hI)) (cwV 1 hts gX6_write_X5_append rfl rfl rfl (by decide +kernel) ⟨(Nat.le_of_ble_eq_true rfl), (Nat.le_of_ble_eq_true rfl)⟩) (x_rc hK (pAt_0 (eAt_P hE)) rfl) (eAt_P hE) rfl hl.1 (Nat.le_of_ble_eq_true rfl) dX6_write_68 ⟨Nat.zero_le _, Nat.zero_le _⟩ hS eC_P (fun H locs hB hF hS => ?_)
  have hE : eAt D cs a τ ss hh pr (up (wp4 pd (τ (11 + 13 * k + 3)) (τ (11 + 13 * k + 4))) (wl4 (τ (11 + 13 * k + 3)) (τ (11 + 13 * k + 4))) 35) ((wl4 (τ (11 + 13 * k + 3)) (τ (11 + 13 * k + 4))) + 1) fr kp su H := eAt_setP hE hI hB hF
  refine lv_aload_n hx hb dX6_write_71 rfl (lv_at hl 1 rfl) ?_
  refine e_g_pad S hin6 hK hE (hts (.fieldLink RX6 26 "EnergyDiscs" "pad" "LEnergyDiscs$Pad;") (by decide +kernel)) dX6_write_72 ?_
  refine lv_aload_n hx hb dX6_write_75 rfl (lv_at hl 0 rfl) ?_
  refine hm_g_seal S hin4 hK (eAt_H hE) (el := k) (by omega) (hts (.fieldLink RX6 97 "EnergyDiscs$Meter" "seal" "I") (by decide +kernel)) dX6_write_76 ?_
  refine x_callVMn (As := [.int (zI (τ (11 + 13 * k + 6)))]) (rest := []) S hK (c_X5_appendNumber l D cs (epd a) (up (wp4 pd (τ (11 + 13 * k + 3)) (τ (11 + 13 * k + 4))) (wl4 (τ (11 + 13 * k + 3)) (τ (11 + 13 * k + 4))) 35) ((wl4 (τ (11 + 13 * k + 3)) (τ (11 + 13 * k + 4))) + 1) (τ (11 + 13 * k + 6)) (by omega) (by omega) (by exact eI_P hI)) (cwV 1 hts gX6_write_X5_appendNumber rfl rfl rfl (by decide +kernel) ⟨(Nat.le_of_ble_eq_true rfl), (Nat.le_of_ble_eq_true rfl)⟩) (x_rc hK (pAt_0 (eAt_P hE)) rfl) (eAt_P hE) rfl hl.1 (Nat.le_of_ble_eq_true rfl) dX6_write_79 ⟨Nat.zero_le _, Nat.zero_le _⟩ hS eC_P (fun H locs hB hF hS => ?_)
  have hE : eAt D cs a τ ss hh pr (numW (up (wp4 pd (τ (11 + 13 * k + 3)) (τ (11 + 13 * k + 4))) (wl4 (τ (11 + 13 * k + 3)) (τ (11 + 13 * k + 4))) 35) ((wl4 (τ (11 + 13 * k + 3)) (τ (11 + 13 * k + 4))) + 1) (τ (11 + 13 * k + 6))) (((wl4 (τ (11 + 13 * k + 3)) (τ (11 + 13 * k + 4))) + 1) + (ndg (τ (11 + 13 * k + 6)) : Int)) fr kp su H := eAt_setP hE hI hB hF
  have hE : eAt D cs a τ ss hh pr (wp6 pd (τ (11 + 13 * k + 3)) (τ (11 + 13 * k + 4)) (τ (11 + 13 * k + 6))) (((wl4 (τ (11 + 13 * k + 3)) (τ (11 + 13 * k + 4))) + 1) + (ndg (τ (11 + 13 * k + 6)) : Int)) fr kp su H := hE
  have hE : eAt D cs a τ ss hh pr (wp6 pd (τ (11 + 13 * k + 3)) (τ (11 + 13 * k + 4)) (τ (11 + 13 * k + 6))) (wl6 (τ (11 + 13 * k + 3)) (τ (11 + 13 * k + 4)) (τ (11 + 13 * k + 6))) fr kp su H := hE
  refine lv_aload_n hx hb dX6_write_82 rfl (lv_at hl 0 rfl) ?_
  refine hm_g_broken S hin4 hK (eAt_H hE) (el := k) (by omega) (hts (.fieldLink RX6 100 "EnergyDiscs$Meter" "broken" "Z") (by decide +kernel)) dX6_write_83 ?_
  refine x_if_eq (tgt := 98) hx hb dX6_write_86 (by decide) (by omega) (fun c_86 => ?_) (fun c_86 => ?_)
  · refine lv_aload_n hx hb dX6_write_98 rfl (lv_at hl 1 rfl) ?_
    refine e_g_pad S hin6 hK hE (hts (.fieldLink RX6 26 "EnergyDiscs" "pad" "LEnergyDiscs$Pad;") (by decide +kernel)) dX6_write_99 ?_
    refine p_g_length S hin5 hK (eAt_P hE) (hts (.fieldLink RX6 104 "EnergyDiscs$Pad" "length" "I") (by decide +kernel)) dX6_write_102 ?_
    exact x_iretM hx hb hr hlocks (by unfold wrL; first | rw [if_pos (by omega)] | rw [if_neg (by omega)]) (eAt_cong hE rfl rfl rfl rfl (by unfold wrP; first | rw [if_pos (by omega)] | rw [if_neg (by omega)]) (by unfold wrL; first | rw [if_pos (by omega)] | rw [if_neg (by omega)]) rfl rfl rfl) hS dX6_write_105
  · refine lv_aload_n hx hb dX6_write_89 rfl (lv_at hl 1 rfl) ?_
    refine e_g_pad S hin6 hK hE (hts (.fieldLink RX6 26 "EnergyDiscs" "pad" "LEnergyDiscs$Pad;") (by decide +kernel)) dX6_write_90 ?_
    refine x_bipush hx hb dX6_write_93 (by decide +kernel) ?_
    refine x_callVMn (As := [.int (zI 33)]) (rest := []) S hK (c_X5_append l D cs (epd a) (wp6 pd (τ (11 + 13 * k + 3)) (τ (11 + 13 * k + 4)) (τ (11 + 13 * k + 6))) (wl6 (τ (11 + 13 * k + 3)) (τ (11 + 13 * k + 4)) (τ (11 + 13 * k + 6))) 33 (by omega) (by omega) (by exact eI_P hI)) (cwV 1 hts gX6_write_X5_append rfl rfl rfl (by decide +kernel) ⟨(Nat.le_of_ble_eq_true rfl), (Nat.le_of_ble_eq_true rfl)⟩) (x_rc hK (pAt_0 (eAt_P hE)) rfl) (eAt_P hE) rfl hl.1 (Nat.le_of_ble_eq_true rfl) dX6_write_95 ⟨Nat.zero_le _, Nat.zero_le _⟩ hS eC_P (fun H locs hB hF hS => ?_)
    have hE : eAt D cs a τ ss hh pr (up (wp6 pd (τ (11 + 13 * k + 3)) (τ (11 + 13 * k + 4)) (τ (11 + 13 * k + 6))) (wl6 (τ (11 + 13 * k + 3)) (τ (11 + 13 * k + 4)) (τ (11 + 13 * k + 6))) 33) ((wl6 (τ (11 + 13 * k + 3)) (τ (11 + 13 * k + 4)) (τ (11 + 13 * k + 6))) + 1) fr kp su H := eAt_setP hE hI hB hF
    refine lv_aload_n hx hb dX6_write_98 rfl (lv_at hl 1 rfl) ?_
    refine e_g_pad S hin6 hK hE (hts (.fieldLink RX6 26 "EnergyDiscs" "pad" "LEnergyDiscs$Pad;") (by decide +kernel)) dX6_write_99 ?_
    refine p_g_length S hin5 hK (eAt_P hE) (hts (.fieldLink RX6 104 "EnergyDiscs$Pad" "length" "I") (by decide +kernel)) dX6_write_102 ?_
    exact x_iretM hx hb hr hlocks (by unfold wrL; first | rw [if_pos (by omega)] | rw [if_neg (by omega)]) (eAt_cong hE rfl rfl rfl rfl (by unfold wrP; first | rw [if_pos (by omega)] | rw [if_neg (by omega)]) (by unfold wrL; first | rw [if_pos (by omega)] | rw [if_neg (by omega)]) rfl rfl rfl) hS dX6_write_105
set_option maxHeartbeats 4000000 in
set_option maxRecDepth 100000 in
theorem c_X6_sign (l : Launch) (D : va_G) (cs : Nat → ClassId) (a : Int → Nat) (τ : Int → Int) (ss : Int → Int → Int) (hh : Int → Int → Int) (pr : Int → Int) (pd : Int → Int) (ln : Int) (fr : Int) (kp : Int) (su : Int → Int) (k : Int) (hl0 : 0 ≤ ln ∧ ln ≤ 80) (hk : -2147483648 ≤ k ∧ k < 2147483648) : kR D cs l yX6_sign wsX6_sign ({ frames := 1, cells := 0, slots := 0, locals := 21 } : Room) [.ref (a 0), .int (zI k)] (fun H => eAt D cs a τ ss hh pr pd ln fr kp su H) (some (.int (zI (sgA pd ln k)))) := by
  refine Met.ofW (cc := cX6_sign) (maxL := 2) (ret := (some .int)) (by decide) rfl ?_
  intro p e s m args below meth c s₁ B hml hv
  obtain ⟨rfl, hK, hE⟩ := hv
  have hx := B.exec
  have hb := B.bytes
  have hr := B.returns
  have hts := atoms_spec (ws := wsX6_sign) B.pre
  have hown : s.vm.findClass RX6 = some m.cls := findClass_of_methodNamed B.named
  have hlocks := B.notSynchronized
  have S : CallFix p m c cX6_sign 2 s (([.ref (a 0), .int (zI k)] : List Value)).toArray wsX6_sign RX6 := ⟨hx, hb, hml, hown, hts⟩
  have hin6 : ∀ w ∈ wsX60, w ∈ wsX6_sign := by decide +kernel
  have hl := lv_entry ([.ref (a 0), .int (zI k)]) (n := 2) (Nat.le_of_ble_eq_true rfl)
  rw [lg_entry_eq]
  generalize (lg_sl ([.ref (a 0), .int (zI k)]) ++ List.replicate (2 - (lg_sl ([.ref (a 0), .int (zI k)])).length) Slot.unset).toArray = ls at hl ⊢
  have hl : lv_has ls 2 [(0, .ref (a 0)), (1, .int (zI k))] := hl
  refine lv_aload_n hx hb dX6_sign_0 rfl (lv_at hl 0 rfl) ?_
  refine e_g_pad S hin6 hK hE (hts (.fieldLink RX6 26 "EnergyDiscs" "pad" "LEnergyDiscs$Pad;") (by decide +kernel)) dX6_sign_1 ?_
  refine lv_iload_n hx hb dX6_sign_4 rfl (lv_at hl 1 rfl) ?_
  refine x_callVR (As := [.int (zI k)]) (rest := []) S hK (c_X5_signAt l D cs (epd a) pd ln k (by omega) (by omega)) (cwV 1 hts gX6_sign_X5_signAt rfl rfl rfl (by decide +kernel) ⟨(Nat.le_of_ble_eq_true rfl), (Nat.le_of_ble_eq_true rfl)⟩) (x_rc hK (pAt_0 (eAt_P hE)) rfl) (eAt_P hE) rfl hl.1 (Nat.le_of_ble_eq_true rfl) dX6_sign_5 ⟨Nat.zero_le _, Nat.zero_le _⟩ ?_
  exact x_iretR hx hb hr hlocks (by first | rfl | omega) rfl dX6_sign_8
set_option maxHeartbeats 4000000 in
set_option maxRecDepth 100000 in
theorem c_X6_of_bad (l : Launch) (D : va_G) (cs : Nat → ClassId) (a : Int → Nat) (τ : Int → Int) (ss : Int → Int → Int) (hh : Int → Int → Int) (pr : Int → Int) (pd : Int → Int) (ln : Int) (fr : Int) (kp : Int) (su : Int → Int) (k : Int) (w : Int) (hg : gOK τ 0) (hk : -2147483648 ≤ k ∧ k < 2147483648) (hn : ¬ (0 ≤ k ∧ k < τ 7)) : kR D cs l yX6_of wsX6_of ({ frames := 3, cells := 0, slots := 0, locals := 68 } : Room) [.ref (a 0), .int (zI k), .int (zI w)] (fun H => eAt D cs a τ ss hh pr pd ln fr kp su H) (some (.int (zI (-1)))) := by
  refine Met.ofW (cc := cX6_of) (maxL := 4) (ret := (some .int)) (by decide) rfl ?_
  intro p e s m args below meth c s₁ B hml hv
  obtain ⟨rfl, hK, hE⟩ := hv
  have hx := B.exec
  have hb := B.bytes
  have hr := B.returns
  have hts := atoms_spec (ws := wsX6_of) B.pre
  have hown : s.vm.findClass RX6 = some m.cls := findClass_of_methodNamed B.named
  have hlocks := B.notSynchronized
  have S : CallFix p m c cX6_of 4 s (([.ref (a 0), .int (zI k), .int (zI w)] : List Value)).toArray wsX6_of RX6 := ⟨hx, hb, hml, hown, hts⟩
  have hin2 : ∀ w ∈ wsX20, w ∈ wsX6_of := by decide +kernel
  have hin4 : ∀ w ∈ wsX40, w ∈ wsX6_of := by decide +kernel
  have hin6 : ∀ w ∈ wsX60, w ∈ wsX6_of := by decide +kernel
  have hl := lv_entry ([.ref (a 0), .int (zI k), .int (zI w)]) (n := 4) (Nat.le_of_ble_eq_true rfl)
  rw [lg_entry_eq]
  generalize (lg_sl ([.ref (a 0), .int (zI k), .int (zI w)]) ++ List.replicate (4 - (lg_sl ([.ref (a 0), .int (zI k), .int (zI w)])).length) Slot.unset).toArray = ls at hl ⊢
  have hl : lv_has ls 4 [(0, .ref (a 0)), (1, .int (zI k)), (2, .int (zI w))] := hl
  have h7 := hg.1.1
  have h8 := hg.1.2.1
  refine lv_aload_n hx hb dX6_of_0 rfl (lv_at hl 0 rfl) ?_
  refine e_g_house S hin6 hK hE (hts (.fieldLink RX6 10 "EnergyDiscs" "house" "LEnergyDiscs$House;") (by decide +kernel)) dX6_of_1 ?_
  refine lv_iload_n hx hb dX6_of_4 rfl (lv_at hl 1 rfl) ?_
  refine x_callVR (As := [.int (zI k)]) (rest := []) S hK (c_X2_meterAt_no l D cs (ehs a 0) τ k (by omega) (by omega) (by omega)) (cwV 1 hts gX6_of_X2_meterAt rfl rfl rfl (by decide +kernel) ⟨(Nat.le_of_ble_eq_true rfl), (Nat.le_of_ble_eq_true rfl)⟩) (x_rc hK (hsAt_0 (hAt_hs (eAt_H hE))) rfl) (eAt_H hE) rfl hl.1 (Nat.le_of_ble_eq_true rfl) dX6_of_5 ⟨Nat.zero_le _, Nat.zero_le _⟩ ?_
  refine lv_astore_nN (lv' := [(3, .null), (0, .ref (a 0)), (1, .int (zI k)), (2, .int (zI w))]) hx hb dX6_of_8 rfl hl (by decide) rfl (fun ls hl => ?_)
  refine lv_aload_nN hx hb dX6_of_9 rfl (lv_at hl 0 rfl) ?_
  refine lv_ifnonnullN hx hb dX6_of_10 ?_
  refine x_iconst hx hb dX6_of_13 ?_
  exact x_iretR hx hb hr hlocks (by first | rfl | omega) rfl dX6_of_14
set_option maxHeartbeats 4000000 in
set_option maxRecDepth 100000 in
theorem c_X6_of_ok (l : Launch) (D : va_G) (cs : Nat → ClassId) (a : Int → Nat) (τ : Int → Int) (ss : Int → Int → Int) (hh : Int → Int → Int) (pr : Int → Int) (pd : Int → Int) (ln : Int) (fr : Int) (kp : Int) (su : Int → Int) (k : Int) (w : Int) (hg : gOK τ 0) (hk : (0 ≤ k ∧ k < τ 7)) (hw : -2147483648 ≤ w ∧ w < 2147483648) (hf : 0 ≤ τ (11 + 13 * k + 5) ∧ τ (11 + 13 * k + 5) < 1000000000000) : kR D cs l yX6_of wsX6_of ({ frames := 3, cells := 0, slots := 0, locals := 68 } : Room) [.ref (a 0), .int (zI k), .int (zI w)] (fun H => eAt D cs a τ ss hh pr pd ln fr kp su H) (some (.int (zI (ofC τ k w)))) := by
  refine Met.ofW (cc := cX6_of) (maxL := 4) (ret := (some .int)) (by decide) rfl ?_
  intro p e s m args below meth c s₁ B hml hv
  obtain ⟨rfl, hK, hE⟩ := hv
  have hx := B.exec
  have hb := B.bytes
  have hr := B.returns
  have hts := atoms_spec (ws := wsX6_of) B.pre
  have hown : s.vm.findClass RX6 = some m.cls := findClass_of_methodNamed B.named
  have hlocks := B.notSynchronized
  have S : CallFix p m c cX6_of 4 s (([.ref (a 0), .int (zI k), .int (zI w)] : List Value)).toArray wsX6_of RX6 := ⟨hx, hb, hml, hown, hts⟩
  have hin2 : ∀ w ∈ wsX20, w ∈ wsX6_of := by decide +kernel
  have hin4 : ∀ w ∈ wsX40, w ∈ wsX6_of := by decide +kernel
  have hin6 : ∀ w ∈ wsX60, w ∈ wsX6_of := by decide +kernel
  have hl := lv_entry ([.ref (a 0), .int (zI k), .int (zI w)]) (n := 4) (Nat.le_of_ble_eq_true rfl)
  rw [lg_entry_eq]
  generalize (lg_sl ([.ref (a 0), .int (zI k), .int (zI w)]) ++ List.replicate (4 - (lg_sl ([.ref (a 0), .int (zI k), .int (zI w)])).length) Slot.unset).toArray = ls at hl ⊢
  have hl : lv_has ls 4 [(0, .ref (a 0)), (1, .int (zI k)), (2, .int (zI w))] := hl
  have h7 := hg.1.1
  have h8 := hg.1.2.1
  have hd := dOK_0 (hg.2.2 k hk.1 hk.2)
  have hs3 : 100 ≤ τ 3 ∧ τ 3 ≤ 5000 := hg.2.1.2.2.2.1
  refine lv_aload_n hx hb dX6_of_0 rfl (lv_at hl 0 rfl) ?_
  refine e_g_house S hin6 hK hE (hts (.fieldLink RX6 10 "EnergyDiscs" "house" "LEnergyDiscs$House;") (by decide +kernel)) dX6_of_1 ?_
  refine lv_iload_n hx hb dX6_of_4 rfl (lv_at hl 1 rfl) ?_
  refine x_callVR (As := [.int (zI k)]) (rest := []) S hK (c_X2_meterAt_ok l D cs (ehs a 0) τ k (by omega) (by omega)) (cwV 1 hts gX6_of_X2_meterAt rfl rfl rfl (by decide +kernel) ⟨(Nat.le_of_ble_eq_true rfl), (Nat.le_of_ble_eq_true rfl)⟩) (x_rc hK (hsAt_0 (hAt_hs (eAt_H hE))) rfl) (eAt_H hE) rfl hl.1 (Nat.le_of_ble_eq_true rfl) dX6_of_5 ⟨Nat.zero_le _, Nat.zero_le _⟩ ?_
  refine lv_astore_n (lv' := [(3, .ref ((ehs a 0) (4 + k))), (0, .ref (a 0)), (1, .int (zI k)), (2, .int (zI w))]) hx hb dX6_of_8 rfl hl (by decide) rfl (fun ls hl => ?_)
  refine lv_aload_n hx hb dX6_of_9 rfl (lv_at hl 0 rfl) ?_
  refine lv_ifnonnull (tgt := 15) hx hb dX6_of_10 (by decide) ?_
  refine lv_iload_n hx hb dX6_of_15 rfl (lv_at hl 3 rfl) ?_
  by_cases k_16_0 : w = 0
  · refine x_tabIn (k := 0) (off := 64) (tgt := 80) hx hb dX6_of_16 k_16_0 (by decide) (by decide) (by decide) rfl (by decide) ?_
    subst k_16_0
    refine lv_aload_n hx hb dX6_of_80 rfl (lv_at hl 0 rfl) ?_
    refine hm_g_through S hin4 hK (eAt_H hE) (el := k) (by omega) (hts (.fieldLink RX6 110 "EnergyDiscs$Meter" "through" "I") (by decide +kernel)) dX6_of_81 ?_
    exact x_iretR hx hb hr hlocks (by first | rfl | (unfold ofC; repeat (first | rw [if_pos (by omega)] | rw [if_neg (by omega)]))) rfl dX6_of_84
  by_cases k_16_1 : w = 1
  · refine x_tabIn (k := 1) (off := 69) (tgt := 85) hx hb dX6_of_16 k_16_1 (by decide) (by decide) (by decide) rfl (by decide) ?_
    subst k_16_1
    refine lv_aload_n hx hb dX6_of_85 rfl (lv_at hl 1 rfl) ?_
    refine e_g_house S hin6 hK hE (hts (.fieldLink RX6 10 "EnergyDiscs" "house" "LEnergyDiscs$House;") (by decide +kernel)) dX6_of_86 ?_
    refine lv_iload_n hx hb dX6_of_89 rfl (lv_at hl 2 rfl) ?_
    refine x_callVR (As := [.int (zI k)]) (rest := []) S hK (c_X2_powerOf l D cs (ehs a 0) τ k (by exact hg.1) (by omega)) (cwV 1 hts gX6_of_X2_powerOf rfl rfl rfl (by decide +kernel) ⟨(Nat.le_of_ble_eq_true rfl), (Nat.le_of_ble_eq_true rfl)⟩) (x_rc hK (hsAt_0 (hAt_hs (eAt_H hE))) rfl) (eAt_H hE) rfl hl.1 (Nat.le_of_ble_eq_true rfl) dX6_of_90 ⟨Nat.zero_le _, Nat.zero_le _⟩ ?_
    exact x_iretR hx hb hr hlocks (by first | rfl | (unfold ofC; repeat (first | rw [if_pos (by omega)] | rw [if_neg (by omega)]))) rfl dX6_of_93
  by_cases k_16_2 : w = 2
  · refine x_tabIn (k := 2) (off := 78) (tgt := 94) hx hb dX6_of_16 k_16_2 (by decide) (by decide) (by decide) rfl (by decide) ?_
    subst k_16_2
    refine lv_aload_n hx hb dX6_of_94 rfl (lv_at hl 0 rfl) ?_
    refine hm_g_place S hin4 hK (eAt_H hE) (el := k) (by omega) (hts (.fieldLink RX6 116 "EnergyDiscs$Meter" "place" "I") (by decide +kernel)) dX6_of_95 ?_
    exact x_iretR hx hb hr hlocks (by first | rfl | (unfold ofC; repeat (first | rw [if_pos (by omega)] | rw [if_neg (by omega)]))) rfl dX6_of_98
  by_cases k_16_3 : w = 3
  · refine x_tabIn (k := 3) (off := 83) (tgt := 99) hx hb dX6_of_16 k_16_3 (by decide) (by decide) (by decide) rfl (by decide) ?_
    subst k_16_3
    refine lv_aload_n hx hb dX6_of_99 rfl (lv_at hl 0 rfl) ?_
    refine hm_g_speed S hin4 hK (eAt_H hE) (el := k) (by omega) (hts (.fieldLink RX6 119 "EnergyDiscs$Meter" "speed" "I") (by decide +kernel)) dX6_of_100 ?_
    exact x_iretR hx hb hr hlocks (by first | rfl | (unfold ofC; repeat (first | rw [if_pos (by omega)] | rw [if_neg (by omega)]))) rfl dX6_of_103
  by_cases k_16_4 : w = 4
  · refine x_tabIn (k := 4) (off := 88) (tgt := 104) hx hb dX6_of_16 k_16_4 (by decide) (by decide) (by decide) rfl (by decide) ?_
    subst k_16_4
    refine lv_aload_n hx hb dX6_of_104 rfl (lv_at hl 0 rfl) ?_
    refine hm_g_dayTurns S hin4 hK (eAt_H hE) (el := k) (by omega) (hts (.fieldLink RX6 86 "EnergyDiscs$Meter" "dayTurns" "I") (by decide +kernel)) dX6_of_105 ?_
    exact x_iretR hx hb hr hlocks (by first | rfl | (unfold ofC; repeat (first | rw [if_pos (by omega)] | rw [if_neg (by omega)]))) rfl dX6_of_108
  by_cases k_16_5 : w = 5
  · refine x_tabIn (k := 5) (off := 93) (tgt := 109) hx hb dX6_of_16 k_16_5 (by decide) (by decide) (by decide) rfl (by decide) ?_
    subst k_16_5
    refine lv_aload_n hx hb dX6_of_109 rfl (lv_at hl 0 rfl) ?_
    refine hm_g_nightTurns S hin4 hK (eAt_H hE) (el := k) (by omega) (hts (.fieldLink RX6 94 "EnergyDiscs$Meter" "nightTurns" "I") (by decide +kernel)) dX6_of_110 ?_
    exact x_iretR hx hb hr hlocks (by first | rfl | (unfold ofC; repeat (first | rw [if_pos (by omega)] | rw [if_neg (by omega)]))) rfl dX6_of_113
  by_cases k_16_6 : w = 6
  · refine x_tabIn (k := 6) (off := 98) (tgt := 114) hx hb dX6_of_16 k_16_6 (by decide) (by decide) (by decide) rfl (by decide) ?_
    subst k_16_6
    refine lv_aload_n hx hb dX6_of_114 rfl (lv_at hl 0 rfl) ?_
    refine hm_g_flowed S hin4 hK (eAt_H hE) (el := k) (by omega) (hts (.fieldLink RX6 122 "EnergyDiscs$Meter" "flowed" "J") (by decide +kernel)) dX6_of_115 ?_
    refine x_ldc2 (v := 6000) hx hb hown (hts (.constantLong RX6 126 (zL 6000)) (by decide +kernel)) dX6_of_118 ?_
    refine x_ldiv hx hb (by omega) (by omega) dX6_of_121 ?_
    refine x_l2i hx hb dX6_of_122 ?_
    exact x_iretR hx hb hr hlocks (by first | rfl | (unfold ofC; repeat (first | rw [if_pos (by omega)] | rw [if_neg (by omega)]))) rfl dX6_of_123
  by_cases k_16_7 : w = 7
  · refine x_tabIn (k := 7) (off := 108) (tgt := 124) hx hb dX6_of_16 k_16_7 (by decide) (by decide) (by decide) rfl (by decide) ?_
    subst k_16_7
    refine lv_aload_n hx hb dX6_of_124 rfl (lv_at hl 0 rfl) ?_
    refine hm_g_seal S hin4 hK (eAt_H hE) (el := k) (by omega) (hts (.fieldLink RX6 97 "EnergyDiscs$Meter" "seal" "I") (by decide +kernel)) dX6_of_125 ?_
    exact x_iretR hx hb hr hlocks (by first | rfl | (unfold ofC; repeat (first | rw [if_pos (by omega)] | rw [if_neg (by omega)]))) rfl dX6_of_128
  by_cases k_16_8 : w = 8
  · refine x_tabIn (k := 8) (off := 113) (tgt := 129) hx hb dX6_of_16 k_16_8 (by decide) (by decide) (by decide) rfl (by decide) ?_
    subst k_16_8
    refine lv_aload_n hx hb dX6_of_129 rfl (lv_at hl 0 rfl) ?_
    refine hm_g_broken S hin4 hK (eAt_H hE) (el := k) (by omega) (hts (.fieldLink RX6 100 "EnergyDiscs$Meter" "broken" "Z") (by decide +kernel)) dX6_of_130 ?_
    refine x_if_eq (tgt := 140) hx hb dX6_of_133 (by decide) (by omega) (fun c_133 => ?_) (fun c_133 => ?_)
    · refine x_iconst hx hb dX6_of_140 ?_
      exact x_iretR hx hb hr hlocks (by first | rfl | (unfold ofC; repeat (first | rw [if_pos (by omega)] | rw [if_neg (by omega)]))) rfl dX6_of_141
    · refine x_iconst hx hb dX6_of_136 ?_
      refine lv_goto (tgt := 141) hx hb dX6_of_137 (by decide) ?_
      exact x_iretR hx hb hr hlocks (by first | rfl | (unfold ofC; repeat (first | rw [if_pos (by omega)] | rw [if_neg (by omega)]))) rfl dX6_of_141
  by_cases k_16_9 : w = 9
  · refine x_tabIn (k := 9) (off := 126) (tgt := 142) hx hb dX6_of_16 k_16_9 (by decide) (by decide) (by decide) rfl (by decide) ?_
    subst k_16_9
    refine lv_aload_n hx hb dX6_of_142 rfl (lv_at hl 0 rfl) ?_
    refine hm_g_billed S hin4 hK (eAt_H hE) (el := k) (by omega) (hts (.fieldLink RX6 128 "EnergyDiscs$Meter" "billed" "I") (by decide +kernel)) dX6_of_143 ?_
    exact x_iretR hx hb hr hlocks (by first | rfl | (unfold ofC; repeat (first | rw [if_pos (by omega)] | rw [if_neg (by omega)]))) rfl dX6_of_146
  by_cases k_16_10 : w = 10
  · refine x_tabIn (k := 10) (off := 131) (tgt := 147) hx hb dX6_of_16 k_16_10 (by decide) (by decide) (by decide) rfl (by decide) ?_
    subst k_16_10
    refine lv_aload_n hx hb dX6_of_147 rfl (lv_at hl 0 rfl) ?_
    refine lv_aload_n hx hb dX6_of_148 rfl (lv_at hl 1 rfl) ?_
    refine e_g_house S hin6 hK hE (hts (.fieldLink RX6 10 "EnergyDiscs" "house" "LEnergyDiscs$House;") (by decide +kernel)) dX6_of_149 ?_
    refine h_g_settings S hin2 hK (hAt_hs (eAt_H hE)) (hts (.fieldLink RX6 131 "EnergyDiscs$House" "settings" "[I") (by decide +kernel)) dX6_of_152 ?_
    refine x_iconst hx hb dX6_of_155 ?_
    refine h_l_set S hK (hAt_hs (eAt_H hE)) (by omega) dX6_of_156 ?_
    refine x_callVR (As := [.int (zI (τ 3))]) (rest := []) S hK (c_X4_minutesToWeaken l D cs ((ehs a 0) (4 + k)) (mrec τ k) (τ 3) (by omega) (by exact hd.2.2.1) (by exact hd.2.1)) (cwV 1 hts gX6_of_X4_minutesToWeaken rfl rfl rfl (by decide +kernel) ⟨(Nat.le_of_ble_eq_true rfl), (Nat.le_of_ble_eq_true rfl)⟩) (x_rc hK (hAt_m (eAt_H hE) (e := k) (by omega)) rfl) (hAt_m (eAt_H hE) (e := k) (by omega)) rfl hl.1 (Nat.le_of_ble_eq_true rfl) dX6_of_157 ⟨Nat.zero_le _, Nat.zero_le _⟩ ?_
    exact x_iretR hx hb hr hlocks (by first | rfl | (unfold ofC; repeat (first | rw [if_pos (by omega)] | rw [if_neg (by omega)]))) rfl dX6_of_160
  by_cases k_16_11 : w = 11
  · refine x_tabIn (k := 11) (off := 145) (tgt := 161) hx hb dX6_of_16 k_16_11 (by decide) (by decide) (by decide) rfl (by decide) ?_
    subst k_16_11
    refine lv_aload_n hx hb dX6_of_161 rfl (lv_at hl 0 rfl) ?_
    refine hm_g_visits S hin4 hK (eAt_H hE) (el := k) (by omega) (hts (.fieldLink RX6 138 "EnergyDiscs$Meter" "visits" "I") (by decide +kernel)) dX6_of_162 ?_
    exact x_iretR hx hb hr hlocks (by first | rfl | (unfold ofC; repeat (first | rw [if_pos (by omega)] | rw [if_neg (by omega)]))) rfl dX6_of_165
  refine x_tabOut (tgt := 166) hx hb dX6_of_16 (by omega) (by omega) (by decide) ?_
  refine x_bipush hx hb dX6_of_166 (by decide +kernel) ?_
  exact x_iretR hx hb hr hlocks (by first | rfl | (unfold ofC; repeat (first | rw [if_pos (by omega)] | rw [if_neg (by omega)]))) rfl dX6_of_168
set_option maxHeartbeats 4000000 in
set_option maxRecDepth 100000 in
theorem c_X6_ofLoad_bad (l : Launch) (D : va_G) (cs : Nat → ClassId) (a : Int → Nat) (τ : Int → Int) (ss : Int → Int → Int) (hh : Int → Int → Int) (pr : Int → Int) (pd : Int → Int) (ln : Int) (fr : Int) (kp : Int) (su : Int → Int) (k : Int) (w : Int) (hg : gOK τ 0) (hk : -2147483648 ≤ k ∧ k < 2147483648) (hn : ¬ (0 ≤ k ∧ k < τ 8)) : kR D cs l yX6_ofLoad wsX6_ofLoad ({ frames := 1, cells := 0, slots := 0, locals := 21 } : Room) [.ref (a 0), .int (zI k), .int (zI w)] (fun H => eAt D cs a τ ss hh pr pd ln fr kp su H) (some (.int (zI (-1)))) := by
  refine Met.ofW (cc := cX6_ofLoad) (maxL := 4) (ret := (some .int)) (by decide) rfl ?_
  intro p e s m args below meth c s₁ B hml hv
  obtain ⟨rfl, hK, hE⟩ := hv
  have hx := B.exec
  have hb := B.bytes
  have hr := B.returns
  have hts := atoms_spec (ws := wsX6_ofLoad) B.pre
  have hown : s.vm.findClass RX6 = some m.cls := findClass_of_methodNamed B.named
  have hlocks := B.notSynchronized
  have S : CallFix p m c cX6_ofLoad 4 s (([.ref (a 0), .int (zI k), .int (zI w)] : List Value)).toArray wsX6_ofLoad RX6 := ⟨hx, hb, hml, hown, hts⟩
  have hin3 : ∀ w ∈ wsX30, w ∈ wsX6_ofLoad := by decide +kernel
  have hin6 : ∀ w ∈ wsX60, w ∈ wsX6_ofLoad := by decide +kernel
  have hl := lv_entry ([.ref (a 0), .int (zI k), .int (zI w)]) (n := 4) (Nat.le_of_ble_eq_true rfl)
  rw [lg_entry_eq]
  generalize (lg_sl ([.ref (a 0), .int (zI k), .int (zI w)]) ++ List.replicate (4 - (lg_sl ([.ref (a 0), .int (zI k), .int (zI w)])).length) Slot.unset).toArray = ls at hl ⊢
  have hl : lv_has ls 4 [(0, .ref (a 0)), (1, .int (zI k)), (2, .int (zI w))] := hl
  have h7 := hg.1.1
  have h8 := hg.1.2.1
  refine lv_aload_n hx hb dX6_ofLoad_0 rfl (lv_at hl 0 rfl) ?_
  refine e_g_house S hin6 hK hE (hts (.fieldLink RX6 10 "EnergyDiscs" "house" "LEnergyDiscs$House;") (by decide +kernel)) dX6_ofLoad_1 ?_
  refine lv_iload_n hx hb dX6_ofLoad_4 rfl (lv_at hl 1 rfl) ?_
  refine x_callVR (As := [.int (zI k)]) (rest := []) S hK (c_X2_loadAt_no l D cs (ehs a 0) τ k (by omega) (by omega) (by omega)) (cwV 1 hts gX6_ofLoad_X2_loadAt rfl rfl rfl (by decide +kernel) ⟨(Nat.le_of_ble_eq_true rfl), (Nat.le_of_ble_eq_true rfl)⟩) (x_rc hK (hsAt_0 (hAt_hs (eAt_H hE))) rfl) (eAt_H hE) rfl hl.1 (Nat.le_of_ble_eq_true rfl) dX6_ofLoad_5 ⟨Nat.zero_le _, Nat.zero_le _⟩ ?_
  refine lv_astore_nN (lv' := [(3, .null), (0, .ref (a 0)), (1, .int (zI k)), (2, .int (zI w))]) hx hb dX6_ofLoad_8 rfl hl (by decide) rfl (fun ls hl => ?_)
  refine lv_aload_nN hx hb dX6_ofLoad_9 rfl (lv_at hl 0 rfl) ?_
  refine lv_ifnonnullN hx hb dX6_ofLoad_10 ?_
  refine x_iconst hx hb dX6_ofLoad_13 ?_
  exact x_iretR hx hb hr hlocks (by first | rfl | omega) rfl dX6_ofLoad_14
set_option maxHeartbeats 4000000 in
set_option maxRecDepth 100000 in
theorem c_X6_ofLoad_ok (l : Launch) (D : va_G) (cs : Nat → ClassId) (a : Int → Nat) (τ : Int → Int) (ss : Int → Int → Int) (hh : Int → Int → Int) (pr : Int → Int) (pd : Int → Int) (ln : Int) (fr : Int) (kp : Int) (su : Int → Int) (k : Int) (w : Int) (hg : gOK τ 0) (hk : (0 ≤ k ∧ k < τ 8)) (hw : -2147483648 ≤ w ∧ w < 2147483648) : kR D cs l yX6_ofLoad wsX6_ofLoad ({ frames := 1, cells := 0, slots := 0, locals := 21 } : Room) [.ref (a 0), .int (zI k), .int (zI w)] (fun H => eAt D cs a τ ss hh pr pd ln fr kp su H) (some (.int (zI (olC τ k w)))) := by
  refine Met.ofW (cc := cX6_ofLoad) (maxL := 4) (ret := (some .int)) (by decide) rfl ?_
  intro p e s m args below meth c s₁ B hml hv
  obtain ⟨rfl, hK, hE⟩ := hv
  have hx := B.exec
  have hb := B.bytes
  have hr := B.returns
  have hts := atoms_spec (ws := wsX6_ofLoad) B.pre
  have hown : s.vm.findClass RX6 = some m.cls := findClass_of_methodNamed B.named
  have hlocks := B.notSynchronized
  have S : CallFix p m c cX6_ofLoad 4 s (([.ref (a 0), .int (zI k), .int (zI w)] : List Value)).toArray wsX6_ofLoad RX6 := ⟨hx, hb, hml, hown, hts⟩
  have hin3 : ∀ w ∈ wsX30, w ∈ wsX6_ofLoad := by decide +kernel
  have hin6 : ∀ w ∈ wsX60, w ∈ wsX6_ofLoad := by decide +kernel
  have hl := lv_entry ([.ref (a 0), .int (zI k), .int (zI w)]) (n := 4) (Nat.le_of_ble_eq_true rfl)
  rw [lg_entry_eq]
  generalize (lg_sl ([.ref (a 0), .int (zI k), .int (zI w)]) ++ List.replicate (4 - (lg_sl ([.ref (a 0), .int (zI k), .int (zI w)])).length) Slot.unset).toArray = ls at hl ⊢
  have hl : lv_has ls 4 [(0, .ref (a 0)), (1, .int (zI k)), (2, .int (zI w))] := hl
  have h7 := hg.1.1
  have h8 := hg.1.2.1
  have hlk := (hg.1.2.2.2 k hk.1 hk.2).2.2
  refine lv_aload_n hx hb dX6_ofLoad_0 rfl (lv_at hl 0 rfl) ?_
  refine e_g_house S hin6 hK hE (hts (.fieldLink RX6 10 "EnergyDiscs" "house" "LEnergyDiscs$House;") (by decide +kernel)) dX6_ofLoad_1 ?_
  refine lv_iload_n hx hb dX6_ofLoad_4 rfl (lv_at hl 1 rfl) ?_
  refine x_callVR (As := [.int (zI k)]) (rest := []) S hK (c_X2_loadAt_ok l D cs (ehs a 0) τ k (by omega) (by omega)) (cwV 1 hts gX6_ofLoad_X2_loadAt rfl rfl rfl (by decide +kernel) ⟨(Nat.le_of_ble_eq_true rfl), (Nat.le_of_ble_eq_true rfl)⟩) (x_rc hK (hsAt_0 (hAt_hs (eAt_H hE))) rfl) (eAt_H hE) rfl hl.1 (Nat.le_of_ble_eq_true rfl) dX6_ofLoad_5 ⟨Nat.zero_le _, Nat.zero_le _⟩ ?_
  refine lv_astore_n (lv' := [(3, .ref ((ehs a 0) (11 + k))), (0, .ref (a 0)), (1, .int (zI k)), (2, .int (zI w))]) hx hb dX6_ofLoad_8 rfl hl (by decide) rfl (fun ls hl => ?_)
  refine lv_aload_n hx hb dX6_ofLoad_9 rfl (lv_at hl 0 rfl) ?_
  refine lv_ifnonnull (tgt := 15) hx hb dX6_ofLoad_10 (by decide) ?_
  refine lv_iload_n hx hb dX6_ofLoad_15 rfl (lv_at hl 3 rfl) ?_
  by_cases k_16_0 : w = 0
  · refine x_tabIn (k := 0) (off := 28) (tgt := 44) hx hb dX6_ofLoad_16 k_16_0 (by decide) (by decide) (by decide) rfl (by decide) ?_
    subst k_16_0
    refine lv_aload_n hx hb dX6_ofLoad_44 rfl (lv_at hl 0 rfl) ?_
    refine hl_g_behind S hin3 hK (eAt_H hE) (el := k) (by omega) (hts (.fieldLink RX6 145 "EnergyDiscs$Load" "behind" "I") (by decide +kernel)) dX6_ofLoad_45 ?_
    exact x_iretR hx hb hr hlocks (by first | rfl | (unfold olC; repeat (first | rw [if_pos (by omega)] | rw [if_neg (by omega)]))) rfl dX6_ofLoad_48
  by_cases k_16_1 : w = 1
  · refine x_tabIn (k := 1) (off := 33) (tgt := 49) hx hb dX6_ofLoad_16 k_16_1 (by decide) (by decide) (by decide) rfl (by decide) ?_
    subst k_16_1
    refine lv_aload_n hx hb dX6_ofLoad_49 rfl (lv_at hl 0 rfl) ?_
    refine hl_g_power S hin3 hK (eAt_H hE) (el := k) (by omega) (hts (.fieldLink RX6 150 "EnergyDiscs$Load" "power" "I") (by decide +kernel)) dX6_ofLoad_50 ?_
    exact x_iretR hx hb hr hlocks (by first | rfl | (unfold olC; repeat (first | rw [if_pos (by omega)] | rw [if_neg (by omega)]))) rfl dX6_ofLoad_53
  by_cases k_16_2 : w = 2
  · refine x_tabIn (k := 2) (off := 38) (tgt := 54) hx hb dX6_ofLoad_16 k_16_2 (by decide) (by decide) (by decide) rfl (by decide) ?_
    subst k_16_2
    refine lv_aload_n hx hb dX6_ofLoad_54 rfl (lv_at hl 0 rfl) ?_
    refine hl_g_on S hin3 hK (eAt_H hE) (el := k) (by omega) (hts (.fieldLink RX6 153 "EnergyDiscs$Load" "on" "Z") (by decide +kernel)) dX6_ofLoad_55 ?_
    refine x_if_eq (tgt := 65) hx hb dX6_ofLoad_58 (by decide) (by omega) (fun c_58 => ?_) (fun c_58 => ?_)
    · refine x_iconst hx hb dX6_ofLoad_65 ?_
      exact x_iretR hx hb hr hlocks (by first | rfl | (unfold olC; repeat (first | rw [if_pos (by omega)] | rw [if_neg (by omega)]))) rfl dX6_ofLoad_66
    · refine x_iconst hx hb dX6_ofLoad_61 ?_
      refine lv_goto (tgt := 66) hx hb dX6_ofLoad_62 (by decide) ?_
      exact x_iretR hx hb hr hlocks (by first | rfl | (unfold olC; repeat (first | rw [if_pos (by omega)] | rw [if_neg (by omega)]))) rfl dX6_ofLoad_66
  refine x_tabOut (tgt := 67) hx hb dX6_ofLoad_16 (by omega) (by omega) (by decide) ?_
  refine x_bipush hx hb dX6_ofLoad_67 (by decide +kernel) ?_
  exact x_iretR hx hb hr hlocks (by first | rfl | (unfold olC; repeat (first | rw [if_pos (by omega)] | rw [if_neg (by omega)]))) rfl dX6_ofLoad_69
set_option maxHeartbeats 4000000 in
set_option maxRecDepth 100000 in
theorem c_X6_misses_bad (l : Launch) (D : va_G) (cs : Nat → ClassId) (a : Int → Nat) (τ : Int → Int) (ss : Int → Int → Int) (hh : Int → Int → Int) (pr : Int → Int) (pd : Int → Int) (ln : Int) (fr : Int) (kp : Int) (su : Int → Int) (k : Int) (hg : gOK τ 0) (hk : -2147483648 ≤ k ∧ k < 2147483648) (hn : ¬ (0 ≤ k ∧ k < τ 7)) : kR D cs l yX6_misses wsX6_misses ({ frames := 2, cells := 0, slots := 0, locals := 40 } : Room) [.ref (a 0), .int (zI k)] (fun H => eAt D cs a τ ss hh pr pd ln fr kp su H) (some (.long (zL (-1)))) := by
  refine Met.ofW (cc := cX6_misses) (maxL := 3) (ret := (some .long)) (by decide) rfl ?_
  intro p e s m args below meth c s₁ B hml hv
  obtain ⟨rfl, hK, hE⟩ := hv
  have hx := B.exec
  have hb := B.bytes
  have hr := B.returns
  have hts := atoms_spec (ws := wsX6_misses) B.pre
  have hown : s.vm.findClass RX6 = some m.cls := findClass_of_methodNamed B.named
  have hlocks := B.notSynchronized
  have S : CallFix p m c cX6_misses 3 s (([.ref (a 0), .int (zI k)] : List Value)).toArray wsX6_misses RX6 := ⟨hx, hb, hml, hown, hts⟩
  have hin6 : ∀ w ∈ wsX60, w ∈ wsX6_misses := by decide +kernel
  have hl := lv_entry ([.ref (a 0), .int (zI k)]) (n := 3) (Nat.le_of_ble_eq_true rfl)
  rw [lg_entry_eq]
  generalize (lg_sl ([.ref (a 0), .int (zI k)]) ++ List.replicate (3 - (lg_sl ([.ref (a 0), .int (zI k)])).length) Slot.unset).toArray = ls at hl ⊢
  have hl : lv_has ls 3 [(0, .ref (a 0)), (1, .int (zI k))] := hl
  have h7 := hg.1.1
  have h8 := hg.1.2.1
  refine lv_aload_n hx hb dX6_misses_0 rfl (lv_at hl 0 rfl) ?_
  refine e_g_house S hin6 hK hE (hts (.fieldLink RX6 10 "EnergyDiscs" "house" "LEnergyDiscs$House;") (by decide +kernel)) dX6_misses_1 ?_
  refine lv_iload_n hx hb dX6_misses_4 rfl (lv_at hl 1 rfl) ?_
  refine x_callVR (As := [.int (zI k)]) (rest := []) S hK (c_X2_meterAt_no l D cs (ehs a 0) τ k (by omega) (by omega) (by omega)) (cwV 1 hts gX6_misses_X2_meterAt rfl rfl rfl (by decide +kernel) ⟨(Nat.le_of_ble_eq_true rfl), (Nat.le_of_ble_eq_true rfl)⟩) (x_rc hK (hsAt_0 (hAt_hs (eAt_H hE))) rfl) (eAt_H hE) rfl hl.1 (Nat.le_of_ble_eq_true rfl) dX6_misses_5 ⟨Nat.zero_le _, Nat.zero_le _⟩ ?_
  refine lv_astore_nN (lv' := [(2, .null), (0, .ref (a 0)), (1, .int (zI k))]) hx hb dX6_misses_8 rfl hl (by decide) rfl (fun ls hl => ?_)
  refine lv_aload_nN hx hb dX6_misses_9 rfl (lv_at hl 0 rfl) ?_
  refine lv_ifnonnullN hx hb dX6_misses_10 ?_
  refine x_ldc2 (v := -1) hx hb hown (hts (.constantLong RX6 156 (zL (-1))) (by decide +kernel)) dX6_misses_13 ?_
  refine lv_goto (tgt := 27) hx hb dX6_misses_16 (by decide) ?_
  exact x_lretR hx hb hr hlocks (by first | rfl | omega) rfl dX6_misses_27
set_option maxHeartbeats 4000000 in
set_option maxRecDepth 100000 in
theorem c_X6_misses_ok (l : Launch) (D : va_G) (cs : Nat → ClassId) (a : Int → Nat) (τ : Int → Int) (ss : Int → Int → Int) (hh : Int → Int → Int) (pr : Int → Int) (pd : Int → Int) (ln : Int) (fr : Int) (kp : Int) (su : Int → Int) (k : Int) (hg : gOK τ 0) (hk : (0 ≤ k ∧ k < τ 7)) (hu : uOK (mrec τ k)) : kR D cs l yX6_misses wsX6_misses ({ frames := 2, cells := 0, slots := 0, locals := 40 } : Room) [.ref (a 0), .int (zI k)] (fun H => eAt D cs a τ ss hh pr pd ln fr kp su H) (some (.long (zL (msM (mrec τ k) + 10000000000)))) := by
  refine Met.ofW (cc := cX6_misses) (maxL := 3) (ret := (some .long)) (by decide) rfl ?_
  intro p e s m args below meth c s₁ B hml hv
  obtain ⟨rfl, hK, hE⟩ := hv
  have hx := B.exec
  have hb := B.bytes
  have hr := B.returns
  have hts := atoms_spec (ws := wsX6_misses) B.pre
  have hown : s.vm.findClass RX6 = some m.cls := findClass_of_methodNamed B.named
  have hlocks := B.notSynchronized
  have S : CallFix p m c cX6_misses 3 s (([.ref (a 0), .int (zI k)] : List Value)).toArray wsX6_misses RX6 := ⟨hx, hb, hml, hown, hts⟩
  have hin6 : ∀ w ∈ wsX60, w ∈ wsX6_misses := by decide +kernel
  have hl := lv_entry ([.ref (a 0), .int (zI k)]) (n := 3) (Nat.le_of_ble_eq_true rfl)
  rw [lg_entry_eq]
  generalize (lg_sl ([.ref (a 0), .int (zI k)]) ++ List.replicate (3 - (lg_sl ([.ref (a 0), .int (zI k)])).length) Slot.unset).toArray = ls at hl ⊢
  have hl : lv_has ls 3 [(0, .ref (a 0)), (1, .int (zI k))] := hl
  have h7 := hg.1.1
  have h8 := hg.1.2.1
  refine lv_aload_n hx hb dX6_misses_0 rfl (lv_at hl 0 rfl) ?_
  refine e_g_house S hin6 hK hE (hts (.fieldLink RX6 10 "EnergyDiscs" "house" "LEnergyDiscs$House;") (by decide +kernel)) dX6_misses_1 ?_
  refine lv_iload_n hx hb dX6_misses_4 rfl (lv_at hl 1 rfl) ?_
  refine x_callVR (As := [.int (zI k)]) (rest := []) S hK (c_X2_meterAt_ok l D cs (ehs a 0) τ k (by omega) (by omega)) (cwV 1 hts gX6_misses_X2_meterAt rfl rfl rfl (by decide +kernel) ⟨(Nat.le_of_ble_eq_true rfl), (Nat.le_of_ble_eq_true rfl)⟩) (x_rc hK (hsAt_0 (hAt_hs (eAt_H hE))) rfl) (eAt_H hE) rfl hl.1 (Nat.le_of_ble_eq_true rfl) dX6_misses_5 ⟨Nat.zero_le _, Nat.zero_le _⟩ ?_
  refine lv_astore_n (lv' := [(2, .ref ((ehs a 0) (4 + k))), (0, .ref (a 0)), (1, .int (zI k))]) hx hb dX6_misses_8 rfl hl (by decide) rfl (fun ls hl => ?_)
  refine lv_aload_n hx hb dX6_misses_9 rfl (lv_at hl 0 rfl) ?_
  refine lv_ifnonnull (tgt := 19) hx hb dX6_misses_10 (by decide) ?_
  refine lv_aload_n hx hb dX6_misses_19 rfl (lv_at hl 0 rfl) ?_
  refine x_callVR (As := []) (rest := []) S hK (c_X4_missed l D cs ((ehs a 0) (4 + k)) (mrec τ k) (by exact hu.1) (by exact hu.2.1)) (cwV 0 hts gX6_misses_X4_missed rfl rfl rfl (by decide +kernel) ⟨(Nat.le_of_ble_eq_true rfl), (Nat.le_of_ble_eq_true rfl)⟩) (x_rc hK (hAt_m (eAt_H hE) (e := k) (by omega)) rfl) (hAt_m (eAt_H hE) (e := k) (by omega)) rfl hl.1 (Nat.le_of_ble_eq_true rfl) dX6_misses_20 ⟨Nat.zero_le _, Nat.zero_le _⟩ ?_
  refine x_ldc2 (v := 10000000000) hx hb hown (hts (.constantLong RX6 162 (zL 10000000000)) (by decide +kernel)) dX6_misses_23 ?_
  refine x_ladd hx hb dX6_misses_26 ?_
  exact x_lretR hx hb hr hlocks (by first | rfl | omega) rfl dX6_misses_27
set_option maxHeartbeats 4000000 in
set_option maxRecDepth 100000 in
theorem c_X6_fed_bad (l : Launch) (D : va_G) (cs : Nat → ClassId) (a : Int → Nat) (τ : Int → Int) (ss : Int → Int → Int) (hh : Int → Int → Int) (pr : Int → Int) (pd : Int → Int) (ln : Int) (fr : Int) (kp : Int) (su : Int → Int) (k : Int) (hg : gOK τ 0) (hk : -2147483648 ≤ k ∧ k < 2147483648) (hn : ¬ (0 ≤ k ∧ k < τ 7)) : kR D cs l yX6_fed wsX6_fed ({ frames := 2, cells := 0, slots := 0, locals := 44 } : Room) [.ref (a 0), .int (zI k)] (fun H => eAt D cs a τ ss hh pr pd ln fr kp su H) (some (.int (zI (-1)))) := by
  refine Met.ofW (cc := cX6_fed) (maxL := 2) (ret := (some .int)) (by decide) rfl ?_
  intro p e s m args below meth c s₁ B hml hv
  obtain ⟨rfl, hK, hE⟩ := hv
  have hx := B.exec
  have hb := B.bytes
  have hr := B.returns
  have hts := atoms_spec (ws := wsX6_fed) B.pre
  have hown : s.vm.findClass RX6 = some m.cls := findClass_of_methodNamed B.named
  have hlocks := B.notSynchronized
  have S : CallFix p m c cX6_fed 2 s (([.ref (a 0), .int (zI k)] : List Value)).toArray wsX6_fed RX6 := ⟨hx, hb, hml, hown, hts⟩
  have hin6 : ∀ w ∈ wsX60, w ∈ wsX6_fed := by decide +kernel
  have hl := lv_entry ([.ref (a 0), .int (zI k)]) (n := 2) (Nat.le_of_ble_eq_true rfl)
  rw [lg_entry_eq]
  generalize (lg_sl ([.ref (a 0), .int (zI k)]) ++ List.replicate (2 - (lg_sl ([.ref (a 0), .int (zI k)])).length) Slot.unset).toArray = ls at hl ⊢
  have hl : lv_has ls 2 [(0, .ref (a 0)), (1, .int (zI k))] := hl
  have h7 := hg.1.1
  have h8 := hg.1.2.1
  refine lv_aload_n hx hb dX6_fed_0 rfl (lv_at hl 0 rfl) ?_
  refine e_g_house S hin6 hK hE (hts (.fieldLink RX6 10 "EnergyDiscs" "house" "LEnergyDiscs$House;") (by decide +kernel)) dX6_fed_1 ?_
  refine lv_iload_n hx hb dX6_fed_4 rfl (lv_at hl 1 rfl) ?_
  refine x_callVR (As := [.int (zI k)]) (rest := []) S hK (c_X2_meterAt_no l D cs (ehs a 0) τ k (by omega) (by omega) (by omega)) (cwV 1 hts gX6_fed_X2_meterAt rfl rfl rfl (by decide +kernel) ⟨(Nat.le_of_ble_eq_true rfl), (Nat.le_of_ble_eq_true rfl)⟩) (x_rc hK (hsAt_0 (hAt_hs (eAt_H hE))) rfl) (eAt_H hE) rfl hl.1 (Nat.le_of_ble_eq_true rfl) dX6_fed_5 ⟨Nat.zero_le _, Nat.zero_le _⟩ ?_
  refine lv_ifnonnullN hx hb dX6_fed_8 ?_
  refine x_iconst hx hb dX6_fed_11 ?_
  refine lv_goto (tgt := 23) hx hb dX6_fed_12 (by decide) ?_
  exact x_iretR hx hb hr hlocks (by first | rfl | omega) rfl dX6_fed_23
set_option maxHeartbeats 4000000 in
set_option maxRecDepth 100000 in
theorem c_X6_fed_ok (l : Launch) (D : va_G) (cs : Nat → ClassId) (a : Int → Nat) (τ : Int → Int) (ss : Int → Int → Int) (hh : Int → Int → Int) (pr : Int → Int) (pd : Int → Int) (ln : Int) (fr : Int) (kp : Int) (su : Int → Int) (k : Int) (hg : gOK τ 0) (hk : (0 ≤ k ∧ k < τ 7)) : kR D cs l yX6_fed wsX6_fed ({ frames := 2, cells := 0, slots := 0, locals := 44 } : Room) [.ref (a 0), .int (zI k)] (fun H => eAt D cs a τ ss hh pr pd ln fr kp su H) (some (.int (zI (fedC τ k)))) := by
  refine Met.ofW (cc := cX6_fed) (maxL := 2) (ret := (some .int)) (by decide) rfl ?_
  intro p e s m args below meth c s₁ B hml hv
  obtain ⟨rfl, hK, hE⟩ := hv
  have hx := B.exec
  have hb := B.bytes
  have hr := B.returns
  have hts := atoms_spec (ws := wsX6_fed) B.pre
  have hown : s.vm.findClass RX6 = some m.cls := findClass_of_methodNamed B.named
  have hlocks := B.notSynchronized
  have S : CallFix p m c cX6_fed 2 s (([.ref (a 0), .int (zI k)] : List Value)).toArray wsX6_fed RX6 := ⟨hx, hb, hml, hown, hts⟩
  have hin6 : ∀ w ∈ wsX60, w ∈ wsX6_fed := by decide +kernel
  have hl := lv_entry ([.ref (a 0), .int (zI k)]) (n := 2) (Nat.le_of_ble_eq_true rfl)
  rw [lg_entry_eq]
  generalize (lg_sl ([.ref (a 0), .int (zI k)]) ++ List.replicate (2 - (lg_sl ([.ref (a 0), .int (zI k)])).length) Slot.unset).toArray = ls at hl ⊢
  have hl : lv_has ls 2 [(0, .ref (a 0)), (1, .int (zI k))] := hl
  have h7 := hg.1.1
  have h8 := hg.1.2.1
  refine lv_aload_n hx hb dX6_fed_0 rfl (lv_at hl 0 rfl) ?_
  refine e_g_house S hin6 hK hE (hts (.fieldLink RX6 10 "EnergyDiscs" "house" "LEnergyDiscs$House;") (by decide +kernel)) dX6_fed_1 ?_
  refine lv_iload_n hx hb dX6_fed_4 rfl (lv_at hl 1 rfl) ?_
  refine x_callVR (As := [.int (zI k)]) (rest := []) S hK (c_X2_meterAt_ok l D cs (ehs a 0) τ k (by omega) (by omega)) (cwV 1 hts gX6_fed_X2_meterAt rfl rfl rfl (by decide +kernel) ⟨(Nat.le_of_ble_eq_true rfl), (Nat.le_of_ble_eq_true rfl)⟩) (x_rc hK (hsAt_0 (hAt_hs (eAt_H hE))) rfl) (eAt_H hE) rfl hl.1 (Nat.le_of_ble_eq_true rfl) dX6_fed_5 ⟨Nat.zero_le _, Nat.zero_le _⟩ ?_
  refine lv_ifnonnull (tgt := 15) hx hb dX6_fed_8 (by decide) ?_
  refine lv_aload_n hx hb dX6_fed_15 rfl (lv_at hl 0 rfl) ?_
  refine e_g_house S hin6 hK hE (hts (.fieldLink RX6 10 "EnergyDiscs" "house" "LEnergyDiscs$House;") (by decide +kernel)) dX6_fed_16 ?_
  refine lv_iload_n hx hb dX6_fed_19 rfl (lv_at hl 1 rfl) ?_
  refine x_callVR (As := [.int (zI k)]) (rest := []) S hK (c_X2_fedThrough l D cs (ehs a 0) τ k (by exact hg.1) (by omega)) (cwV 1 hts gX6_fed_X2_fedThrough rfl rfl rfl (by decide +kernel) ⟨(Nat.le_of_ble_eq_true rfl), (Nat.le_of_ble_eq_true rfl)⟩) (x_rc hK (hsAt_0 (hAt_hs (eAt_H hE))) rfl) (eAt_H hE) rfl hl.1 (Nat.le_of_ble_eq_true rfl) dX6_fed_20 ⟨Nat.zero_le _, Nat.zero_le _⟩ ?_
  exact x_iretR hx hb hr hlocks (by first | rfl | omega) rfl dX6_fed_23
set_option maxHeartbeats 4000000 in
set_option maxRecDepth 100000 in
theorem c_X6_count (l : Launch) (D : va_G) (cs : Nat → ClassId) (a : Int → Nat) (τ : Int → Int) (ss : Int → Int → Int) (hh : Int → Int → Int) (pr : Int → Int) (pd : Int → Int) (ln : Int) (fr : Int) (kp : Int) (su : Int → Int) (w : Int) (hg : gOK τ 0) (hw : -2147483648 ≤ w ∧ w < 2147483648) : kR D cs l yX6_count wsX6_count ({ frames := 2, cells := 0, slots := 0, locals := 42 } : Room) [.ref (a 0), .int (zI w)] (fun H => eAt D cs a τ ss hh pr pd ln fr kp su H) (some (.int (zI (cntC τ kp ln w)))) := by
  refine Met.ofW (cc := cX6_count) (maxL := 2) (ret := (some .int)) (by decide) rfl ?_
  intro p e s m args below meth c s₁ B hml hv
  obtain ⟨rfl, hK, hE⟩ := hv
  have hx := B.exec
  have hb := B.bytes
  have hr := B.returns
  have hts := atoms_spec (ws := wsX6_count) B.pre
  have hown : s.vm.findClass RX6 = some m.cls := findClass_of_methodNamed B.named
  have hlocks := B.notSynchronized
  have S : CallFix p m c cX6_count 2 s (([.ref (a 0), .int (zI w)] : List Value)).toArray wsX6_count RX6 := ⟨hx, hb, hml, hown, hts⟩
  have hin1 : ∀ w ∈ wsX10, w ∈ wsX6_count := by decide +kernel
  have hin2 : ∀ w ∈ wsX20, w ∈ wsX6_count := by decide +kernel
  have hin5 : ∀ w ∈ wsX50, w ∈ wsX6_count := by decide +kernel
  have hin6 : ∀ w ∈ wsX60, w ∈ wsX6_count := by decide +kernel
  have hl := lv_entry ([.ref (a 0), .int (zI w)]) (n := 2) (Nat.le_of_ble_eq_true rfl)
  rw [lg_entry_eq]
  generalize (lg_sl ([.ref (a 0), .int (zI w)]) ++ List.replicate (2 - (lg_sl ([.ref (a 0), .int (zI w)])).length) Slot.unset).toArray = ls at hl ⊢
  have hl : lv_has ls 2 [(0, .ref (a 0)), (1, .int (zI w))] := hl
  have h7 := hg.1.1
  have h8 := hg.1.2.1
  have h6 : 0 ≤ τ 6 ∧ τ 6 < 1000000 := hg.2.1.2.2.2.2
  refine lv_iload_n hx hb dX6_count_0 rfl (lv_at hl 1 rfl) ?_
  by_cases k_1_0 : w = 0
  · refine x_tabIn (k := 0) (off := 83) (tgt := 84) hx hb dX6_count_1 k_1_0 (by decide) (by decide) (by decide) rfl (by decide) ?_
    subst k_1_0
    refine lv_aload_n hx hb dX6_count_84 rfl (lv_at hl 0 rfl) ?_
    refine e_g_house S hin6 hK hE (hts (.fieldLink RX6 10 "EnergyDiscs" "house" "LEnergyDiscs$House;") (by decide +kernel)) dX6_count_85 ?_
    refine h_g_time S hin2 hK (hAt_hs (eAt_H hE)) (hts (.fieldLink RX6 167 "EnergyDiscs$House" "time" "I") (by decide +kernel)) dX6_count_88 ?_
    exact x_iretR hx hb hr hlocks (by first | rfl | (unfold cntC; repeat (first | rw [if_pos (by omega)] | rw [if_neg (by omega)]))) rfl dX6_count_91
  by_cases k_1_1 : w = 1
  · refine x_tabIn (k := 1) (off := 91) (tgt := 92) hx hb dX6_count_1 k_1_1 (by decide) (by decide) (by decide) rfl (by decide) ?_
    subst k_1_1
    refine lv_aload_n hx hb dX6_count_92 rfl (lv_at hl 0 rfl) ?_
    refine e_g_house S hin6 hK hE (hts (.fieldLink RX6 10 "EnergyDiscs" "house" "LEnergyDiscs$House;") (by decide +kernel)) dX6_count_93 ?_
    refine h_g_time S hin2 hK (hAt_hs (eAt_H hE)) (hts (.fieldLink RX6 167 "EnergyDiscs$House" "time" "I") (by decide +kernel)) dX6_count_96 ?_
    refine x_callSR (As := [.int (zI (τ 6))]) (rest := []) S hK (c_X6_isNight l D cs (τ 6) (by omega)) (va_cwS 1 hts gX6_count_X6_isNight rfl rfl rfl (by decide +kernel) ⟨(Nat.le_of_ble_eq_true rfl), (Nat.le_of_ble_eq_true rfl)⟩) trivial rfl hl.1 (Nat.le_of_ble_eq_true rfl) dX6_count_99 ⟨Nat.zero_le _, Nat.zero_le _⟩ ?_
    refine x_if_eq (tgt := 109) hx hb dX6_count_102 (by decide) (by unfold ngt; split <;> omega) (fun c_102 => ?_) (fun c_102 => ?_)
    · refine x_iconst hx hb dX6_count_109 ?_
      exact x_iretR hx hb hr hlocks (by first | (show _ = ngt (τ 6); rw [c_102]) | (show _ = ngt (τ 6); unfold ngt at c_102 ⊢; split at c_102 <;> first | (rw [if_pos (by assumption)]) | (exfalso; omega))) rfl dX6_count_110
    · refine x_iconst hx hb dX6_count_105 ?_
      refine lv_goto (tgt := 110) hx hb dX6_count_106 (by decide) ?_
      exact x_iretR hx hb hr hlocks (by first | (show _ = ngt (τ 6); rw [c_102]) | (show _ = ngt (τ 6); unfold ngt at c_102 ⊢; split at c_102 <;> first | (rw [if_pos (by assumption)]) | (exfalso; omega))) rfl dX6_count_110
  by_cases k_1_2 : w = 2
  · refine x_tabIn (k := 2) (off := 110) (tgt := 111) hx hb dX6_count_1 k_1_2 (by decide) (by decide) (by decide) rfl (by decide) ?_
    subst k_1_2
    refine lv_aload_n hx hb dX6_count_111 rfl (lv_at hl 0 rfl) ?_
    refine e_g_house S hin6 hK hE (hts (.fieldLink RX6 10 "EnergyDiscs" "house" "LEnergyDiscs$House;") (by decide +kernel)) dX6_count_112 ?_
    refine h_g_meterCount S hin2 hK (hAt_hs (eAt_H hE)) (hts (.fieldLink RX6 174 "EnergyDiscs$House" "meterCount" "I") (by decide +kernel)) dX6_count_115 ?_
    exact x_iretR hx hb hr hlocks (by first | rfl | (unfold cntC; repeat (first | rw [if_pos (by omega)] | rw [if_neg (by omega)]))) rfl dX6_count_118
  by_cases k_1_3 : w = 3
  · refine x_tabIn (k := 3) (off := 118) (tgt := 119) hx hb dX6_count_1 k_1_3 (by decide) (by decide) (by decide) rfl (by decide) ?_
    subst k_1_3
    refine lv_aload_n hx hb dX6_count_119 rfl (lv_at hl 0 rfl) ?_
    refine e_g_house S hin6 hK hE (hts (.fieldLink RX6 10 "EnergyDiscs" "house" "LEnergyDiscs$House;") (by decide +kernel)) dX6_count_120 ?_
    refine h_g_loadCount S hin2 hK (hAt_hs (eAt_H hE)) (hts (.fieldLink RX6 177 "EnergyDiscs$House" "loadCount" "I") (by decide +kernel)) dX6_count_123 ?_
    exact x_iretR hx hb hr hlocks (by first | rfl | (unfold cntC; repeat (first | rw [if_pos (by omega)] | rw [if_neg (by omega)]))) rfl dX6_count_126
  by_cases k_1_4 : w = 4
  · refine x_tabIn (k := 4) (off := 126) (tgt := 127) hx hb dX6_count_1 k_1_4 (by decide) (by decide) (by decide) rfl (by decide) ?_
    subst k_1_4
    refine lv_aload_n hx hb dX6_count_127 rfl (lv_at hl 0 rfl) ?_
    refine e_g_house S hin6 hK hE (hts (.fieldLink RX6 10 "EnergyDiscs" "house" "LEnergyDiscs$House;") (by decide +kernel)) dX6_count_128 ?_
    refine x_callVR (As := []) (rest := []) S hK (c_X2_loadsOn l D cs (ehs a 0) τ (by omega) (by exact fun j h0 h1 => (hg.1.2.2.2 j h0 h1).2.2)) (cwV 0 hts gX6_count_X2_loadsOn rfl rfl rfl (by decide +kernel) ⟨(Nat.le_of_ble_eq_true rfl), (Nat.le_of_ble_eq_true rfl)⟩) (x_rc hK (hsAt_0 (hAt_hs (eAt_H hE))) rfl) (eAt_H hE) rfl hl.1 (Nat.le_of_ble_eq_true rfl) dX6_count_131 ⟨Nat.zero_le _, Nat.zero_le _⟩ ?_
    exact x_iretR hx hb hr hlocks (by first | rfl | (unfold cntC; repeat (first | rw [if_pos (by omega)] | rw [if_neg (by omega)]))) rfl dX6_count_134
  by_cases k_1_5 : w = 5
  · refine x_tabIn (k := 5) (off := 134) (tgt := 135) hx hb dX6_count_1 k_1_5 (by decide) (by decide) (by decide) rfl (by decide) ?_
    subst k_1_5
    refine lv_aload_n hx hb dX6_count_135 rfl (lv_at hl 0 rfl) ?_
    refine e_g_house S hin6 hK hE (hts (.fieldLink RX6 10 "EnergyDiscs" "house" "LEnergyDiscs$House;") (by decide +kernel)) dX6_count_136 ?_
    refine x_callVR (As := []) (rest := []) S hK (c_X2_sealsBroken l D cs (ehs a 0) τ (by omega) (by exact fun j h0 h1 => (dOK_0 (hg.2.2 j h0 h1)).2.2.2)) (cwV 0 hts gX6_count_X2_sealsBroken rfl rfl rfl (by decide +kernel) ⟨(Nat.le_of_ble_eq_true rfl), (Nat.le_of_ble_eq_true rfl)⟩) (x_rc hK (hsAt_0 (hAt_hs (eAt_H hE))) rfl) (eAt_H hE) rfl hl.1 (Nat.le_of_ble_eq_true rfl) dX6_count_139 ⟨Nat.zero_le _, Nat.zero_le _⟩ ?_
    exact x_iretR hx hb hr hlocks (by first | rfl | (unfold cntC; repeat (first | rw [if_pos (by omega)] | rw [if_neg (by omega)]))) rfl dX6_count_142
  by_cases k_1_6 : w = 6
  · refine x_tabIn (k := 6) (off := 142) (tgt := 143) hx hb dX6_count_1 k_1_6 (by decide) (by decide) (by decide) rfl (by decide) ?_
    subst k_1_6
    refine lv_aload_n hx hb dX6_count_143 rfl (lv_at hl 0 rfl) ?_
    refine e_g_house S hin6 hK hE (hts (.fieldLink RX6 10 "EnergyDiscs" "house" "LEnergyDiscs$House;") (by decide +kernel)) dX6_count_144 ?_
    refine x_callVR (As := []) (rest := []) S hK (c_X2_allTurns l D cs (ehs a 0) τ (by omega)) (cwV 0 hts gX6_count_X2_allTurns rfl rfl rfl (by decide +kernel) ⟨(Nat.le_of_ble_eq_true rfl), (Nat.le_of_ble_eq_true rfl)⟩) (x_rc hK (hsAt_0 (hAt_hs (eAt_H hE))) rfl) (eAt_H hE) rfl hl.1 (Nat.le_of_ble_eq_true rfl) dX6_count_147 ⟨Nat.zero_le _, Nat.zero_le _⟩ ?_
    exact x_iretR hx hb hr hlocks (by first | rfl | (unfold cntC; repeat (first | rw [if_pos (by omega)] | rw [if_neg (by omega)]))) rfl dX6_count_150
  by_cases k_1_7 : w = 7
  · refine x_tabIn (k := 7) (off := 150) (tgt := 151) hx hb dX6_count_1 k_1_7 (by decide) (by decide) (by decide) rfl (by decide) ?_
    subst k_1_7
    refine lv_aload_n hx hb dX6_count_151 rfl (lv_at hl 0 rfl) ?_
    refine e_g_house S hin6 hK hE (hts (.fieldLink RX6 10 "EnergyDiscs" "house" "LEnergyDiscs$House;") (by decide +kernel)) dX6_count_152 ?_
    refine x_callVR (As := []) (rest := []) S hK (c_X2_allBilled l D cs (ehs a 0) τ (by omega)) (cwV 0 hts gX6_count_X2_allBilled rfl rfl rfl (by decide +kernel) ⟨(Nat.le_of_ble_eq_true rfl), (Nat.le_of_ble_eq_true rfl)⟩) (x_rc hK (hsAt_0 (hAt_hs (eAt_H hE))) rfl) (eAt_H hE) rfl hl.1 (Nat.le_of_ble_eq_true rfl) dX6_count_155 ⟨Nat.zero_le _, Nat.zero_le _⟩ ?_
    exact x_iretR hx hb hr hlocks (by first | rfl | (unfold cntC; repeat (first | rw [if_pos (by omega)] | rw [if_neg (by omega)]))) rfl dX6_count_158
  by_cases k_1_8 : w = 8
  · refine x_tabIn (k := 8) (off := 158) (tgt := 159) hx hb dX6_count_1 k_1_8 (by decide) (by decide) (by decide) rfl (by decide) ?_
    subst k_1_8
    refine lv_aload_n hx hb dX6_count_159 rfl (lv_at hl 0 rfl) ?_
    refine e_g_house S hin6 hK hE (hts (.fieldLink RX6 10 "EnergyDiscs" "house" "LEnergyDiscs$House;") (by decide +kernel)) dX6_count_160 ?_
    refine h_g_greatestSeal S hin2 hK (hAt_hs (eAt_H hE)) (hts (.fieldLink RX6 193 "EnergyDiscs$House" "greatestSeal" "I") (by decide +kernel)) dX6_count_163 ?_
    exact x_iretR hx hb hr hlocks (by first | rfl | (unfold cntC; repeat (first | rw [if_pos (by omega)] | rw [if_neg (by omega)]))) rfl dX6_count_166
  by_cases k_1_9 : w = 9
  · refine x_tabIn (k := 9) (off := 166) (tgt := 167) hx hb dX6_count_1 k_1_9 (by decide) (by decide) (by decide) rfl (by decide) ?_
    subst k_1_9
    refine lv_aload_n hx hb dX6_count_167 rfl (lv_at hl 0 rfl) ?_
    refine e_g_house S hin6 hK hE (hts (.fieldLink RX6 10 "EnergyDiscs" "house" "LEnergyDiscs$House;") (by decide +kernel)) dX6_count_168 ?_
    refine h_g_settings S hin2 hK (hAt_hs (eAt_H hE)) (hts (.fieldLink RX6 131 "EnergyDiscs$House" "settings" "[I") (by decide +kernel)) dX6_count_171 ?_
    refine x_iconst hx hb dX6_count_174 ?_
    refine h_l_set S hK (hAt_hs (eAt_H hE)) (by omega) dX6_count_175 ?_
    exact x_iretR hx hb hr hlocks (by first | rfl | (unfold cntC; repeat (first | rw [if_pos (by omega)] | rw [if_neg (by omega)]))) rfl dX6_count_176
  by_cases k_1_10 : w = 10
  · refine x_tabIn (k := 10) (off := 176) (tgt := 177) hx hb dX6_count_1 k_1_10 (by decide) (by decide) (by decide) rfl (by decide) ?_
    subst k_1_10
    refine lv_aload_n hx hb dX6_count_177 rfl (lv_at hl 0 rfl) ?_
    refine e_g_house S hin6 hK hE (hts (.fieldLink RX6 10 "EnergyDiscs" "house" "LEnergyDiscs$House;") (by decide +kernel)) dX6_count_178 ?_
    refine h_g_settings S hin2 hK (hAt_hs (eAt_H hE)) (hts (.fieldLink RX6 131 "EnergyDiscs$House" "settings" "[I") (by decide +kernel)) dX6_count_181 ?_
    refine x_iconst hx hb dX6_count_184 ?_
    refine h_l_set S hK (hAt_hs (eAt_H hE)) (by omega) dX6_count_185 ?_
    exact x_iretR hx hb hr hlocks (by first | rfl | (unfold cntC; repeat (first | rw [if_pos (by omega)] | rw [if_neg (by omega)]))) rfl dX6_count_186
  by_cases k_1_11 : w = 11
  · refine x_tabIn (k := 11) (off := 186) (tgt := 187) hx hb dX6_count_1 k_1_11 (by decide) (by decide) (by decide) rfl (by decide) ?_
    subst k_1_11
    refine lv_aload_n hx hb dX6_count_187 rfl (lv_at hl 0 rfl) ?_
    refine e_g_house S hin6 hK hE (hts (.fieldLink RX6 10 "EnergyDiscs" "house" "LEnergyDiscs$House;") (by decide +kernel)) dX6_count_188 ?_
    refine h_g_settings S hin2 hK (hAt_hs (eAt_H hE)) (hts (.fieldLink RX6 131 "EnergyDiscs$House" "settings" "[I") (by decide +kernel)) dX6_count_191 ?_
    refine x_iconst hx hb dX6_count_194 ?_
    refine h_l_set S hK (hAt_hs (eAt_H hE)) (by omega) dX6_count_195 ?_
    exact x_iretR hx hb hr hlocks (by first | rfl | (unfold cntC; repeat (first | rw [if_pos (by omega)] | rw [if_neg (by omega)]))) rfl dX6_count_196
  by_cases k_1_12 : w = 12
  · refine x_tabIn (k := 12) (off := 196) (tgt := 197) hx hb dX6_count_1 k_1_12 (by decide) (by decide) (by decide) rfl (by decide) ?_
    subst k_1_12
    refine lv_aload_n hx hb dX6_count_197 rfl (lv_at hl 0 rfl) ?_
    refine e_g_house S hin6 hK hE (hts (.fieldLink RX6 10 "EnergyDiscs" "house" "LEnergyDiscs$House;") (by decide +kernel)) dX6_count_198 ?_
    refine h_g_settings S hin2 hK (hAt_hs (eAt_H hE)) (hts (.fieldLink RX6 131 "EnergyDiscs$House" "settings" "[I") (by decide +kernel)) dX6_count_201 ?_
    refine x_iconst hx hb dX6_count_204 ?_
    refine h_l_set S hK (hAt_hs (eAt_H hE)) (by omega) dX6_count_205 ?_
    exact x_iretR hx hb hr hlocks (by first | rfl | (unfold cntC; repeat (first | rw [if_pos (by omega)] | rw [if_neg (by omega)]))) rfl dX6_count_206
  by_cases k_1_13 : w = 13
  · refine x_tabIn (k := 13) (off := 206) (tgt := 207) hx hb dX6_count_1 k_1_13 (by decide) (by decide) (by decide) rfl (by decide) ?_
    subst k_1_13
    refine lv_aload_n hx hb dX6_count_207 rfl (lv_at hl 0 rfl) ?_
    refine e_g_house S hin6 hK hE (hts (.fieldLink RX6 10 "EnergyDiscs" "house" "LEnergyDiscs$House;") (by decide +kernel)) dX6_count_208 ?_
    refine h_g_settings S hin2 hK (hAt_hs (eAt_H hE)) (hts (.fieldLink RX6 131 "EnergyDiscs$House" "settings" "[I") (by decide +kernel)) dX6_count_211 ?_
    refine x_iconst hx hb dX6_count_214 ?_
    refine h_l_set S hK (hAt_hs (eAt_H hE)) (by omega) dX6_count_215 ?_
    exact x_iretR hx hb hr hlocks (by first | rfl | (unfold cntC; repeat (first | rw [if_pos (by omega)] | rw [if_neg (by omega)]))) rfl dX6_count_216
  by_cases k_1_14 : w = 14
  · refine x_tabIn (k := 14) (off := 216) (tgt := 217) hx hb dX6_count_1 k_1_14 (by decide) (by decide) (by decide) rfl (by decide) ?_
    subst k_1_14
    refine lv_aload_n hx hb dX6_count_217 rfl (lv_at hl 0 rfl) ?_
    refine e_g_house S hin6 hK hE (hts (.fieldLink RX6 10 "EnergyDiscs" "house" "LEnergyDiscs$House;") (by decide +kernel)) dX6_count_218 ?_
    refine h_g_settings S hin2 hK (hAt_hs (eAt_H hE)) (hts (.fieldLink RX6 131 "EnergyDiscs$House" "settings" "[I") (by decide +kernel)) dX6_count_221 ?_
    refine x_iconst hx hb dX6_count_224 ?_
    refine h_l_set S hK (hAt_hs (eAt_H hE)) (by omega) dX6_count_225 ?_
    exact x_iretR hx hb hr hlocks (by first | rfl | (unfold cntC; repeat (first | rw [if_pos (by omega)] | rw [if_neg (by omega)]))) rfl dX6_count_226
  by_cases k_1_15 : w = 15
  · refine x_tabIn (k := 15) (off := 226) (tgt := 227) hx hb dX6_count_1 k_1_15 (by decide) (by decide) (by decide) rfl (by decide) ?_
    subst k_1_15
    refine lv_aload_n hx hb dX6_count_227 rfl (lv_at hl 0 rfl) ?_
    refine e_g_pad S hin6 hK hE (hts (.fieldLink RX6 26 "EnergyDiscs" "pad" "LEnergyDiscs$Pad;") (by decide +kernel)) dX6_count_228 ?_
    refine p_g_length S hin5 hK (eAt_P hE) (hts (.fieldLink RX6 104 "EnergyDiscs$Pad" "length" "I") (by decide +kernel)) dX6_count_231 ?_
    exact x_iretR hx hb hr hlocks (by first | rfl | (unfold cntC; repeat (first | rw [if_pos (by omega)] | rw [if_neg (by omega)]))) rfl dX6_count_234
  by_cases k_1_16 : w = 16
  · refine x_tabIn (k := 16) (off := 234) (tgt := 235) hx hb dX6_count_1 k_1_16 (by decide) (by decide) (by decide) rfl (by decide) ?_
    subst k_1_16
    refine lv_aload_n hx hb dX6_count_235 rfl (lv_at hl 0 rfl) ?_
    refine e_g_history S hin6 hK hE (hts (.fieldLink RX6 33 "EnergyDiscs" "history" "LEnergyDiscs$History;") (by decide +kernel)) dX6_count_236 ?_
    refine e_g_kept S hin1 hK hE (hts (.fieldLink RX6 196 "EnergyDiscs$History" "kept" "I") (by decide +kernel)) dX6_count_239 ?_
    exact x_iretR hx hb hr hlocks (by first | rfl | (unfold cntC; repeat (first | rw [if_pos (by omega)] | rw [if_neg (by omega)]))) rfl dX6_count_242
  refine x_tabOut (tgt := 243) hx hb dX6_count_1 (by omega) (by omega) (by decide) ?_
  refine x_bipush hx hb dX6_count_243 (by decide +kernel) ?_
  exact x_iretR hx hb hr hlocks (by first | rfl | (unfold cntC; repeat (first | rw [if_pos (by omega)] | rw [if_neg (by omega)]))) rfl dX6_count_245
set_option maxHeartbeats 4000000 in
set_option maxRecDepth 100000 in
theorem c_X6_bill_bad (l : Launch) (D : va_G) (cs : Nat → ClassId) (a : Int → Nat) (τ : Int → Int) (ss : Int → Int → Int) (hh : Int → Int → Int) (pr : Int → Int) (pd : Int → Int) (ln : Int) (fr : Int) (kp : Int) (su : Int → Int) (k : Int) (hg : gOK τ 0) (hk : -2147483648 ≤ k ∧ k < 2147483648) (hn : ¬ (0 ≤ k ∧ k < τ 7)) : kR D cs l yX6_bill wsX6_bill ({ frames := 2, cells := 0, slots := 0, locals := 41 } : Room) [.ref (a 0), .int (zI k)] (fun H => eAt D cs a τ ss hh pr pd ln fr kp su H) (some (.int (zI (-1)))) := by
  refine Met.ofW (cc := cX6_bill) (maxL := 3) (ret := (some .int)) (by decide) rfl ?_
  intro p e s m args below meth c s₁ B hml hv
  obtain ⟨rfl, hK, hE⟩ := hv
  have hx := B.exec
  have hb := B.bytes
  have hr := B.returns
  have hts := atoms_spec (ws := wsX6_bill) B.pre
  have hown : s.vm.findClass RX6 = some m.cls := findClass_of_methodNamed B.named
  have hlocks := B.notSynchronized
  have S : CallFix p m c cX6_bill 3 s (([.ref (a 0), .int (zI k)] : List Value)).toArray wsX6_bill RX6 := ⟨hx, hb, hml, hown, hts⟩
  have hin6 : ∀ w ∈ wsX60, w ∈ wsX6_bill := by decide +kernel
  have hl := lv_entry ([.ref (a 0), .int (zI k)]) (n := 3) (Nat.le_of_ble_eq_true rfl)
  rw [lg_entry_eq]
  generalize (lg_sl ([.ref (a 0), .int (zI k)]) ++ List.replicate (3 - (lg_sl ([.ref (a 0), .int (zI k)])).length) Slot.unset).toArray = ls at hl ⊢
  have hl : lv_has ls 3 [(0, .ref (a 0)), (1, .int (zI k))] := hl
  have h7 := hg.1.1
  have h8 := hg.1.2.1
  refine lv_aload_n hx hb dX6_bill_0 rfl (lv_at hl 0 rfl) ?_
  refine e_g_house S hin6 hK hE (hts (.fieldLink RX6 10 "EnergyDiscs" "house" "LEnergyDiscs$House;") (by decide +kernel)) dX6_bill_1 ?_
  refine lv_iload_n hx hb dX6_bill_4 rfl (lv_at hl 1 rfl) ?_
  refine x_callVR (As := [.int (zI k)]) (rest := []) S hK (c_X2_meterAt_no l D cs (ehs a 0) τ k (by omega) (by omega) (by omega)) (cwV 1 hts gX6_bill_X2_meterAt rfl rfl rfl (by decide +kernel) ⟨(Nat.le_of_ble_eq_true rfl), (Nat.le_of_ble_eq_true rfl)⟩) (x_rc hK (hsAt_0 (hAt_hs (eAt_H hE))) rfl) (eAt_H hE) rfl hl.1 (Nat.le_of_ble_eq_true rfl) dX6_bill_5 ⟨Nat.zero_le _, Nat.zero_le _⟩ ?_
  refine lv_astore_nN (lv' := [(2, .null), (0, .ref (a 0)), (1, .int (zI k))]) hx hb dX6_bill_8 rfl hl (by decide) rfl (fun ls hl => ?_)
  refine lv_aload_nN hx hb dX6_bill_9 rfl (lv_at hl 0 rfl) ?_
  refine lv_ifnonnullN hx hb dX6_bill_10 ?_
  refine x_iconst hx hb dX6_bill_13 ?_
  refine lv_goto (tgt := 25) hx hb dX6_bill_14 (by decide) ?_
  exact x_iretR hx hb hr hlocks (by first | rfl | omega) rfl dX6_bill_25
set_option maxHeartbeats 4000000 in
set_option maxRecDepth 100000 in
theorem c_X6_bill_ok (l : Launch) (D : va_G) (cs : Nat → ClassId) (a : Int → Nat) (τ : Int → Int) (ss : Int → Int → Int) (hh : Int → Int → Int) (pr : Int → Int) (pd : Int → Int) (ln : Int) (fr : Int) (kp : Int) (su : Int → Int) (k : Int) (hg : gOK τ 0) (hk : (0 ≤ k ∧ k < τ 7)) : kR D cs l yX6_bill wsX6_bill ({ frames := 2, cells := 0, slots := 0, locals := 41 } : Room) [.ref (a 0), .int (zI k)] (fun H => eAt D cs a τ ss hh pr pd ln fr kp su H) (some (.int (zI (owS (mrec τ k) τ)))) := by
  refine Met.ofW (cc := cX6_bill) (maxL := 3) (ret := (some .int)) (by decide) rfl ?_
  intro p e s m args below meth c s₁ B hml hv
  obtain ⟨rfl, hK, hE⟩ := hv
  have hx := B.exec
  have hb := B.bytes
  have hr := B.returns
  have hts := atoms_spec (ws := wsX6_bill) B.pre
  have hown : s.vm.findClass RX6 = some m.cls := findClass_of_methodNamed B.named
  have hlocks := B.notSynchronized
  have S : CallFix p m c cX6_bill 3 s (([.ref (a 0), .int (zI k)] : List Value)).toArray wsX6_bill RX6 := ⟨hx, hb, hml, hown, hts⟩
  have hin6 : ∀ w ∈ wsX60, w ∈ wsX6_bill := by decide +kernel
  have hl := lv_entry ([.ref (a 0), .int (zI k)]) (n := 3) (Nat.le_of_ble_eq_true rfl)
  rw [lg_entry_eq]
  generalize (lg_sl ([.ref (a 0), .int (zI k)]) ++ List.replicate (3 - (lg_sl ([.ref (a 0), .int (zI k)])).length) Slot.unset).toArray = ls at hl ⊢
  have hl : lv_has ls 3 [(0, .ref (a 0)), (1, .int (zI k))] := hl
  have h7 := hg.1.1
  have h8 := hg.1.2.1
  refine lv_aload_n hx hb dX6_bill_0 rfl (lv_at hl 0 rfl) ?_
  refine e_g_house S hin6 hK hE (hts (.fieldLink RX6 10 "EnergyDiscs" "house" "LEnergyDiscs$House;") (by decide +kernel)) dX6_bill_1 ?_
  refine lv_iload_n hx hb dX6_bill_4 rfl (lv_at hl 1 rfl) ?_
  refine x_callVR (As := [.int (zI k)]) (rest := []) S hK (c_X2_meterAt_ok l D cs (ehs a 0) τ k (by omega) (by omega)) (cwV 1 hts gX6_bill_X2_meterAt rfl rfl rfl (by decide +kernel) ⟨(Nat.le_of_ble_eq_true rfl), (Nat.le_of_ble_eq_true rfl)⟩) (x_rc hK (hsAt_0 (hAt_hs (eAt_H hE))) rfl) (eAt_H hE) rfl hl.1 (Nat.le_of_ble_eq_true rfl) dX6_bill_5 ⟨Nat.zero_le _, Nat.zero_le _⟩ ?_
  refine lv_astore_n (lv' := [(2, .ref ((ehs a 0) (4 + k))), (0, .ref (a 0)), (1, .int (zI k))]) hx hb dX6_bill_8 rfl hl (by decide) rfl (fun ls hl => ?_)
  refine lv_aload_n hx hb dX6_bill_9 rfl (lv_at hl 0 rfl) ?_
  refine lv_ifnonnull (tgt := 17) hx hb dX6_bill_10 (by decide) ?_
  refine lv_aload_n hx hb dX6_bill_17 rfl (lv_at hl 1 rfl) ?_
  refine e_g_house S hin6 hK hE (hts (.fieldLink RX6 10 "EnergyDiscs" "house" "LEnergyDiscs$House;") (by decide +kernel)) dX6_bill_18 ?_
  refine lv_aload_n hx hb dX6_bill_21 rfl (lv_at hl 0 rfl) ?_
  refine x_callVR (As := [.ref ((ehs a 0) (4 + k))]) (rest := []) S hK (c_X2_owedAt l D cs (ehs a 0) τ ((ehs a 0) (4 + k)) (mrec τ k) ) (cwV 1 hts gX6_bill_X2_owedAt rfl rfl rfl (by decide +kernel) ⟨(Nat.le_of_ble_eq_true rfl), (Nat.le_of_ble_eq_true rfl)⟩) (x_rc hK (hsAt_0 (hAt_hs (eAt_H hE))) rfl) ⟨(hAt_hs (eAt_H hE)), (hAt_m (eAt_H hE) (e := k) (by omega))⟩ rfl hl.1 (Nat.le_of_ble_eq_true rfl) dX6_bill_22 ⟨Nat.zero_le _, Nat.zero_le _⟩ ?_
  exact x_iretR hx hb hr hlocks (by first | rfl | omega) rfl dX6_bill_25
set_option maxHeartbeats 4000000 in
set_option maxRecDepth 100000 in
theorem c_X6_turnsIn_bad (l : Launch) (D : va_G) (cs : Nat → ClassId) (a : Int → Nat) (τ : Int → Int) (ss : Int → Int → Int) (hh : Int → Int → Int) (pr : Int → Int) (pd : Int → Int) (ln : Int) (fr : Int) (kp : Int) (su : Int → Int) (k : Int) (hg : gOK τ 0) (hk : -2147483648 ≤ k ∧ k < 2147483648) (hn : ¬ (0 ≤ k ∧ k < τ 7)) : kR D cs l yX6_turnsIn wsX6_turnsIn ({ frames := 4, cells := 0, slots := 0, locals := 93 } : Room) [.ref (a 0), .int (zI k)] (fun H => eAt D cs a τ ss hh pr pd ln fr kp su H) (some (.int (zI (-1)))) := by
  refine Met.ofW (cc := cX6_turnsIn) (maxL := 3) (ret := (some .int)) (by decide) rfl ?_
  intro p e s m args below meth c s₁ B hml hv
  obtain ⟨rfl, hK, hE⟩ := hv
  have hx := B.exec
  have hb := B.bytes
  have hr := B.returns
  have hts := atoms_spec (ws := wsX6_turnsIn) B.pre
  have hown : s.vm.findClass RX6 = some m.cls := findClass_of_methodNamed B.named
  have hlocks := B.notSynchronized
  have S : CallFix p m c cX6_turnsIn 3 s (([.ref (a 0), .int (zI k)] : List Value)).toArray wsX6_turnsIn RX6 := ⟨hx, hb, hml, hown, hts⟩
  have hin6 : ∀ w ∈ wsX60, w ∈ wsX6_turnsIn := by decide +kernel
  have hl := lv_entry ([.ref (a 0), .int (zI k)]) (n := 3) (Nat.le_of_ble_eq_true rfl)
  rw [lg_entry_eq]
  generalize (lg_sl ([.ref (a 0), .int (zI k)]) ++ List.replicate (3 - (lg_sl ([.ref (a 0), .int (zI k)])).length) Slot.unset).toArray = ls at hl ⊢
  have hl : lv_has ls 3 [(0, .ref (a 0)), (1, .int (zI k))] := hl
  have h7 := hg.1.1
  have h8 := hg.1.2.1
  refine lv_aload_n hx hb dX6_turnsIn_0 rfl (lv_at hl 0 rfl) ?_
  refine e_g_house S hin6 hK hE (hts (.fieldLink RX6 10 "EnergyDiscs" "house" "LEnergyDiscs$House;") (by decide +kernel)) dX6_turnsIn_1 ?_
  refine lv_iload_n hx hb dX6_turnsIn_4 rfl (lv_at hl 1 rfl) ?_
  refine x_callVR (As := [.int (zI k)]) (rest := []) S hK (c_X2_meterAt_no l D cs (ehs a 0) τ k (by omega) (by omega) (by omega)) (cwV 1 hts gX6_turnsIn_X2_meterAt rfl rfl rfl (by decide +kernel) ⟨(Nat.le_of_ble_eq_true rfl), (Nat.le_of_ble_eq_true rfl)⟩) (x_rc hK (hsAt_0 (hAt_hs (eAt_H hE))) rfl) (eAt_H hE) rfl hl.1 (Nat.le_of_ble_eq_true rfl) dX6_turnsIn_5 ⟨Nat.zero_le _, Nat.zero_le _⟩ ?_
  refine lv_astore_nN (lv' := [(2, .null), (0, .ref (a 0)), (1, .int (zI k))]) hx hb dX6_turnsIn_8 rfl hl (by decide) rfl (fun ls hl => ?_)
  refine lv_aload_nN hx hb dX6_turnsIn_9 rfl (lv_at hl 0 rfl) ?_
  refine lv_ifnonnullN hx hb dX6_turnsIn_10 ?_
  refine x_iconst hx hb dX6_turnsIn_13 ?_
  exact x_iretR hx hb hr hlocks (by first | rfl | omega) rfl dX6_turnsIn_14
set_option maxHeartbeats 4000000 in
set_option maxRecDepth 100000 in
theorem c_X6_turnsIn_ok (l : Launch) (D : va_G) (cs : Nat → ClassId) (a : Int → Nat) (τ : Int → Int) (ss : Int → Int → Int) (hh : Int → Int → Int) (pr : Int → Int) (pd : Int → Int) (ln : Int) (fr : Int) (kp : Int) (su : Int → Int) (k : Int) (hI : eI a) (hg : gOK τ 0) (hk : (0 ≤ k ∧ k < τ 7)) : kM D cs l yX6_turnsIn wsX6_turnsIn ({ frames := 4, cells := 0, slots := 0, locals := 93 } : Room) [.ref (a 0), .int (zI k)] (fun H => eAt D cs a τ ss hh pr pd ln fr kp su H) (some (.int (zI (mtR (mrec τ k) (sset τ) (cpow τ k) (τ 6) 3000 0)))) (fun H => eAt D cs a τ ss hh (mtS (mrec τ k) (sset τ) (cpow τ k) (τ 6) 3000 0) pd ln fr kp su H) (eC a) := by
  refine Met.ofW (cc := cX6_turnsIn) (maxL := 3) (ret := (some .int)) (by decide) rfl ?_
  intro p e s m args below meth c s₁ B hml hv
  obtain ⟨rfl, hK, hE⟩ := hv
  have hx := B.exec
  have hb := B.bytes
  have hr := B.returns
  have hts := atoms_spec (ws := wsX6_turnsIn) B.pre
  have hown : s.vm.findClass RX6 = some m.cls := findClass_of_methodNamed B.named
  have hlocks := B.notSynchronized
  have S : CallFix p m c cX6_turnsIn 3 s (([.ref (a 0), .int (zI k)] : List Value)).toArray wsX6_turnsIn RX6 := ⟨hx, hb, hml, hown, hts⟩
  have hin6 : ∀ w ∈ wsX60, w ∈ wsX6_turnsIn := by decide +kernel
  have hS : va_S (eC a) s.heap s.heap [] := va_S.rf
  have hl := lv_entry ([.ref (a 0), .int (zI k)]) (n := 3) (Nat.le_of_ble_eq_true rfl)
  rw [lg_entry_eq]
  generalize (lg_sl ([.ref (a 0), .int (zI k)]) ++ List.replicate (3 - (lg_sl ([.ref (a 0), .int (zI k)])).length) Slot.unset).toArray = ls at hl ⊢
  have hl : lv_has ls 3 [(0, .ref (a 0)), (1, .int (zI k))] := hl
  have h7 := hg.1.1
  have h8 := hg.1.2.1
  have hr0 := rOK_m hg hk
  refine lv_aload_n hx hb dX6_turnsIn_0 rfl (lv_at hl 0 rfl) ?_
  refine e_g_house S hin6 hK hE (hts (.fieldLink RX6 10 "EnergyDiscs" "house" "LEnergyDiscs$House;") (by decide +kernel)) dX6_turnsIn_1 ?_
  refine lv_iload_n hx hb dX6_turnsIn_4 rfl (lv_at hl 1 rfl) ?_
  refine x_callVR (As := [.int (zI k)]) (rest := []) S hK (c_X2_meterAt_ok l D cs (ehs a 0) τ k (by omega) (by omega)) (cwV 1 hts gX6_turnsIn_X2_meterAt rfl rfl rfl (by decide +kernel) ⟨(Nat.le_of_ble_eq_true rfl), (Nat.le_of_ble_eq_true rfl)⟩) (x_rc hK (hsAt_0 (hAt_hs (eAt_H hE))) rfl) (eAt_H hE) rfl hl.1 (Nat.le_of_ble_eq_true rfl) dX6_turnsIn_5 ⟨Nat.zero_le _, Nat.zero_le _⟩ ?_
  refine lv_astore_n (lv' := [(2, .ref ((ehs a 0) (4 + k))), (0, .ref (a 0)), (1, .int (zI k))]) hx hb dX6_turnsIn_8 rfl hl (by decide) rfl (fun ls hl => ?_)
  refine lv_aload_n hx hb dX6_turnsIn_9 rfl (lv_at hl 0 rfl) ?_
  refine lv_ifnonnull (tgt := 15) hx hb dX6_turnsIn_10 (by decide) ?_
  refine lv_aload_n hx hb dX6_turnsIn_15 rfl (lv_at hl 1 rfl) ?_
  refine e_g_probe S hin6 hK hE (hts (.fieldLink RX6 19 "EnergyDiscs" "probe" "LEnergyDiscs$Meter;") (by decide +kernel)) dX6_turnsIn_16 ?_
  refine lv_aload_n hx hb dX6_turnsIn_19 rfl (lv_at hl 0 rfl) ?_
  refine x_callVMn (As := [.ref ((ehs a 0) (4 + k))]) (rest := []) S hK (c_X4_copyFrom l D cs (a 1) pr ((ehs a 0) (4 + k)) (mrec τ k) (by exact eI_1 hI (by decide) (by omega)) (by exact hr0.2.2.2)) (cwV 1 hts gX6_turnsIn_X4_copyFrom rfl rfl rfl (by decide +kernel) ⟨(Nat.le_of_ble_eq_true rfl), (Nat.le_of_ble_eq_true rfl)⟩) (x_rc hK (eAt_T hE) rfl) ⟨(eAt_T hE), (hAt_m (eAt_H hE) (e := k) (by omega))⟩ rfl hl.1 (Nat.le_of_ble_eq_true rfl) dX6_turnsIn_20 ⟨Nat.zero_le _, Nat.zero_le _⟩ hS eC_T (fun H locs hB hF hS => ?_)
  have hE : eAt D cs a τ ss hh ((mrec τ k)) pd ln fr kp su H := eAt_setT hE hI hB.1 hF
  refine lv_aload_n hx hb dX6_turnsIn_23 rfl (lv_at hl 1 rfl) ?_
  refine e_g_house S hin6 hK hE (hts (.fieldLink RX6 10 "EnergyDiscs" "house" "LEnergyDiscs$House;") (by decide +kernel)) dX6_turnsIn_24 ?_
  refine lv_aload_n hx hb dX6_turnsIn_27 rfl (lv_at hl 1 rfl) ?_
  refine e_g_probe S hin6 hK hE (hts (.fieldLink RX6 19 "EnergyDiscs" "probe" "LEnergyDiscs$Meter;") (by decide +kernel)) dX6_turnsIn_28 ?_
  refine lv_aload_n hx hb dX6_turnsIn_31 rfl (lv_at hl 1 rfl) ?_
  refine e_g_house S hin6 hK hE (hts (.fieldLink RX6 10 "EnergyDiscs" "house" "LEnergyDiscs$House;") (by decide +kernel)) dX6_turnsIn_32 ?_
  refine lv_iload_n hx hb dX6_turnsIn_35 rfl (lv_at hl 2 rfl) ?_
  refine x_callVR (As := [.int (zI k)]) (rest := [.ref (a 1), .ref (ehs a 0 0)]) S hK (c_X2_powerOf l D cs (ehs a 0) τ k (by exact hg.1) (by omega)) (cwV 1 hts gX6_turnsIn_X2_powerOf rfl rfl rfl (by decide +kernel) ⟨(Nat.le_of_ble_eq_true rfl), (Nat.le_of_ble_eq_true rfl)⟩) (x_rc hK (hsAt_0 (hAt_hs (eAt_H hE))) rfl) (eAt_H hE) rfl hl.1 (Nat.le_of_ble_eq_true rfl) dX6_turnsIn_36 ⟨Nat.zero_le _, Nat.zero_le _⟩ ?_
  refine x_callVM (As := [.ref (a 1), .int (zI (cpow τ k))]) (rest := []) S hK (c_X2_minutesToTurn l D cs (ehs a 0) τ (a 1) ((mrec τ k)) (cpow τ k) (by exact hr0) (by exact hg.2.1) (by exact cpow_rng hg.1 k) (by exact ⟨eI_1 hI (by decide) (by decide), eI_1 hI (by decide) (by decide)⟩)) (cwV 2 hts gX6_turnsIn_X2_minutesToTurn rfl rfl rfl (by decide +kernel) ⟨(Nat.le_of_ble_eq_true rfl), (Nat.le_of_ble_eq_true rfl)⟩) (x_rc hK (hsAt_0 (hAt_hs (eAt_H hE))) rfl) ⟨(hAt_hs (eAt_H hE)), (eAt_T hE)⟩ rfl hl.1 (Nat.le_of_ble_eq_true rfl) dX6_turnsIn_39 ⟨Nat.zero_le _, Nat.zero_le _⟩ hS eC_T (fun H locs hB hF hS => ?_)
  have hE : eAt D cs a τ ss hh (mtS ((mrec τ k)) (sset τ) (cpow τ k) (τ 6) 3000 0) pd ln fr kp su H := eAt_setT hE hI hB.2 hF
  exact x_iretM hx hb hr hlocks (by first | rfl | omega) (eAt_cong hE rfl rfl rfl (by rfl) rfl rfl rfl rfl rfl) hS dX6_turnsIn_42
set_option maxHeartbeats 4000000 in
set_option maxRecDepth 100000 in
theorem c_X6_wouldTurn_no (l : Launch) (D : va_G) (cs : Nat → ClassId) (a : Int → Nat) (τ : Int → Int) (ss : Int → Int → Int) (hh : Int → Int → Int) (pr : Int → Int) (pd : Int → Int) (ln : Int) (fr : Int) (kp : Int) (su : Int → Int) (k : Int) (w : Int) (nt : Int) (hg : gOK τ 0) (hk : -2147483648 ≤ k ∧ k < 2147483648) (hw : -2147483648 ≤ w ∧ w < 2147483648) (hnt : -2147483648 ≤ nt ∧ nt < 2147483648) (hn : ¬ (0 ≤ k ∧ k < τ 7)) : kR D cs l yX6_wouldTurn wsX6_wouldTurn ({ frames := 4, cells := 0, slots := 0, locals := 98 } : Room) [.ref (a 0), .int (zI k), .int (zI w), .int (zI nt)] (fun H => eAt D cs a τ ss hh pr pd ln fr kp su H) (some (.int (zI (-1)))) := by
  refine Met.ofW (cc := cX6_wouldTurn) (maxL := 5) (ret := (some .int)) (by decide) rfl ?_
  intro p e s m args below meth c s₁ B hml hv
  obtain ⟨rfl, hK, hE⟩ := hv
  have hx := B.exec
  have hb := B.bytes
  have hr := B.returns
  have hts := atoms_spec (ws := wsX6_wouldTurn) B.pre
  have hown : s.vm.findClass RX6 = some m.cls := findClass_of_methodNamed B.named
  have hlocks := B.notSynchronized
  have S : CallFix p m c cX6_wouldTurn 5 s (([.ref (a 0), .int (zI k), .int (zI w), .int (zI nt)] : List Value)).toArray wsX6_wouldTurn RX6 := ⟨hx, hb, hml, hown, hts⟩
  have hin4 : ∀ w ∈ wsX40, w ∈ wsX6_wouldTurn := by decide +kernel
  have hin6 : ∀ w ∈ wsX60, w ∈ wsX6_wouldTurn := by decide +kernel
  have hl := lv_entry ([.ref (a 0), .int (zI k), .int (zI w), .int (zI nt)]) (n := 5) (Nat.le_of_ble_eq_true rfl)
  rw [lg_entry_eq]
  generalize (lg_sl ([.ref (a 0), .int (zI k), .int (zI w), .int (zI nt)]) ++ List.replicate (5 - (lg_sl ([.ref (a 0), .int (zI k), .int (zI w), .int (zI nt)])).length) Slot.unset).toArray = ls at hl ⊢
  have hl : lv_has ls 5 [(0, .ref (a 0)), (1, .int (zI k)), (2, .int (zI w)), (3, .int (zI nt))] := hl
  have h7 := hg.1.1
  have h8 := hg.1.2.1
  refine lv_aload_n hx hb dX6_wouldTurn_0 rfl (lv_at hl 0 rfl) ?_
  refine e_g_house S hin6 hK hE (hts (.fieldLink RX6 10 "EnergyDiscs" "house" "LEnergyDiscs$House;") (by decide +kernel)) dX6_wouldTurn_1 ?_
  refine lv_iload_n hx hb dX6_wouldTurn_4 rfl (lv_at hl 1 rfl) ?_
  refine x_callVR (As := [.int (zI k)]) (rest := []) S hK (c_X2_meterAt_no l D cs (ehs a 0) τ k (by omega) (by omega) (by omega)) (cwV 1 hts gX6_wouldTurn_X2_meterAt rfl rfl rfl (by decide +kernel) ⟨(Nat.le_of_ble_eq_true rfl), (Nat.le_of_ble_eq_true rfl)⟩) (x_rc hK (hsAt_0 (hAt_hs (eAt_H hE))) rfl) (eAt_H hE) rfl hl.1 (Nat.le_of_ble_eq_true rfl) dX6_wouldTurn_5 ⟨Nat.zero_le _, Nat.zero_le _⟩ ?_
  refine lv_astoreN (lv' := [(4, .null), (0, .ref (a 0)), (1, .int (zI k)), (2, .int (zI w)), (3, .int (zI nt))]) hx hb dX6_wouldTurn_8 hl (by decide) rfl (fun ls hl => ?_)
  refine lv_aloadN hx hb dX6_wouldTurn_10 (lv_at hl 0 rfl) ?_
  refine lv_ifnonnullN hx hb dX6_wouldTurn_12 ?_
  refine x_iconst hx hb dX6_wouldTurn_15 ?_
  exact x_iretR hx hb hr hlocks (by first | rfl | omega) rfl dX6_wouldTurn_16
set_option maxHeartbeats 4000000 in
set_option maxRecDepth 100000 in
theorem c_X6_wouldTurn_bad (l : Launch) (D : va_G) (cs : Nat → ClassId) (a : Int → Nat) (τ : Int → Int) (ss : Int → Int → Int) (hh : Int → Int → Int) (pr : Int → Int) (pd : Int → Int) (ln : Int) (fr : Int) (kp : Int) (su : Int → Int) (k : Int) (w : Int) (nt : Int) (hg : gOK τ 0) (hk : (0 ≤ k ∧ k < τ 7)) (hw : -2147483648 ≤ w ∧ w < 2147483648) (hnt : -2147483648 ≤ nt ∧ nt < 2147483648) (hn : ¬ ((1 ≤ w ∧ w ≤ 1440) ∧ (0 ≤ nt ∧ nt ≤ 1))) : kR D cs l yX6_wouldTurn wsX6_wouldTurn ({ frames := 4, cells := 0, slots := 0, locals := 98 } : Room) [.ref (a 0), .int (zI k), .int (zI w), .int (zI nt)] (fun H => eAt D cs a τ ss hh pr pd ln fr kp su H) (some (.int (zI (-2)))) := by
  refine Met.ofW (cc := cX6_wouldTurn) (maxL := 5) (ret := (some .int)) (by decide) rfl ?_
  intro p e s m args below meth c s₁ B hml hv
  obtain ⟨rfl, hK, hE⟩ := hv
  have hx := B.exec
  have hb := B.bytes
  have hr := B.returns
  have hts := atoms_spec (ws := wsX6_wouldTurn) B.pre
  have hown : s.vm.findClass RX6 = some m.cls := findClass_of_methodNamed B.named
  have hlocks := B.notSynchronized
  have S : CallFix p m c cX6_wouldTurn 5 s (([.ref (a 0), .int (zI k), .int (zI w), .int (zI nt)] : List Value)).toArray wsX6_wouldTurn RX6 := ⟨hx, hb, hml, hown, hts⟩
  have hin4 : ∀ w ∈ wsX40, w ∈ wsX6_wouldTurn := by decide +kernel
  have hin6 : ∀ w ∈ wsX60, w ∈ wsX6_wouldTurn := by decide +kernel
  have hl := lv_entry ([.ref (a 0), .int (zI k), .int (zI w), .int (zI nt)]) (n := 5) (Nat.le_of_ble_eq_true rfl)
  rw [lg_entry_eq]
  generalize (lg_sl ([.ref (a 0), .int (zI k), .int (zI w), .int (zI nt)]) ++ List.replicate (5 - (lg_sl ([.ref (a 0), .int (zI k), .int (zI w), .int (zI nt)])).length) Slot.unset).toArray = ls at hl ⊢
  have hl : lv_has ls 5 [(0, .ref (a 0)), (1, .int (zI k)), (2, .int (zI w)), (3, .int (zI nt))] := hl
  have h7 := hg.1.1
  have h8 := hg.1.2.1
  refine lv_aload_n hx hb dX6_wouldTurn_0 rfl (lv_at hl 0 rfl) ?_
  refine e_g_house S hin6 hK hE (hts (.fieldLink RX6 10 "EnergyDiscs" "house" "LEnergyDiscs$House;") (by decide +kernel)) dX6_wouldTurn_1 ?_
  refine lv_iload_n hx hb dX6_wouldTurn_4 rfl (lv_at hl 1 rfl) ?_
  refine x_callVR (As := [.int (zI k)]) (rest := []) S hK (c_X2_meterAt_ok l D cs (ehs a 0) τ k (by omega) (by omega)) (cwV 1 hts gX6_wouldTurn_X2_meterAt rfl rfl rfl (by decide +kernel) ⟨(Nat.le_of_ble_eq_true rfl), (Nat.le_of_ble_eq_true rfl)⟩) (x_rc hK (hsAt_0 (hAt_hs (eAt_H hE))) rfl) (eAt_H hE) rfl hl.1 (Nat.le_of_ble_eq_true rfl) dX6_wouldTurn_5 ⟨Nat.zero_le _, Nat.zero_le _⟩ ?_
  refine lv_astore (lv' := [(4, .ref ((ehs a 0) (4 + k))), (0, .ref (a 0)), (1, .int (zI k)), (2, .int (zI w)), (3, .int (zI nt))]) hx hb dX6_wouldTurn_8 hl (by decide) rfl (fun ls hl => ?_)
  refine lv_aload hx hb dX6_wouldTurn_10 (lv_at hl 0 rfl) ?_
  refine lv_ifnonnull (tgt := 17) hx hb dX6_wouldTurn_12 (by decide) ?_
  refine lv_iload_n hx hb dX6_wouldTurn_17 rfl (lv_at hl 3 rfl) ?_
  refine x_iconst hx hb dX6_wouldTurn_18 ?_
  refine x_icmp_lt (tgt := 38) hx hb dX6_wouldTurn_19 (by decide) (by omega) (by omega) (fun c_19 => ?_) (fun c_19 => ?_)
  · refine x_bipush hx hb dX6_wouldTurn_38 (by decide +kernel) ?_
    exact x_iretR hx hb hr hlocks (by first | rfl | omega) rfl dX6_wouldTurn_40
  · refine lv_iload_n hx hb dX6_wouldTurn_22 rfl (lv_at hl 3 rfl) ?_
    refine x_sipush hx hb dX6_wouldTurn_23 (by decide +kernel) ?_
    refine x_icmp_gt (tgt := 38) hx hb dX6_wouldTurn_26 (by decide) (by omega) (by omega) (fun c_26 => ?_) (fun c_26 => ?_)
    · refine x_bipush hx hb dX6_wouldTurn_38 (by decide +kernel) ?_
      exact x_iretR hx hb hr hlocks (by first | rfl | omega) rfl dX6_wouldTurn_40
    · refine lv_iload_n hx hb dX6_wouldTurn_29 rfl (lv_at hl 4 rfl) ?_
      refine x_if_lt (tgt := 38) hx hb dX6_wouldTurn_30 (by decide) (by omega) (fun c_30 => ?_) (fun c_30 => ?_)
      · refine x_bipush hx hb dX6_wouldTurn_38 (by decide +kernel) ?_
        exact x_iretR hx hb hr hlocks (by first | rfl | omega) rfl dX6_wouldTurn_40
      · refine lv_iload_n hx hb dX6_wouldTurn_33 rfl (lv_at hl 4 rfl) ?_
        refine x_iconst hx hb dX6_wouldTurn_34 ?_
        refine x_icmp_le (tgt := 41) hx hb dX6_wouldTurn_35 (by decide) (by omega) (by omega) (fun c_35 => ?_) (fun c_35 => ?_)
        · exfalso; omega
        · refine x_bipush hx hb dX6_wouldTurn_38 (by decide +kernel) ?_
          exact x_iretR hx hb hr hlocks (by first | rfl | omega) rfl dX6_wouldTurn_40
set_option maxHeartbeats 4000000 in
set_option maxRecDepth 100000 in
theorem c_X6_wouldTurn_ok (l : Launch) (D : va_G) (cs : Nat → ClassId) (a : Int → Nat) (τ : Int → Int) (ss : Int → Int → Int) (hh : Int → Int → Int) (pr : Int → Int) (pd : Int → Int) (ln : Int) (fr : Int) (kp : Int) (su : Int → Int) (k : Int) (w : Int) (nt : Int) (hI : eI a) (hg : gOK τ 0) (hk : (0 ≤ k ∧ k < τ 7)) (hw : 1 ≤ w ∧ w ≤ 1440) (hnt : 0 ≤ nt ∧ nt ≤ 1) : kM D cs l yX6_wouldTurn wsX6_wouldTurn ({ frames := 4, cells := 0, slots := 0, locals := 98 } : Room) [.ref (a 0), .int (zI k), .int (zI w), .int (zI nt)] (fun H => eAt D cs a τ ss hh pr pd ln fr kp su H) (some (.int (zI (miN (mrec τ k) (sset τ) (cpow τ k) (τ 6) w.toNat (if nt = 1 then 4 else 3) - τ (11 + 13 * k + (if nt = 1 then 4 else 3)))))) (fun H => eAt D cs a τ ss hh (miN (mrec τ k) (sset τ) (cpow τ k) (τ 6) w.toNat) pd ln fr kp su H) (eC a) := by
  refine Met.ofW (cc := cX6_wouldTurn) (maxL := 5) (ret := (some .int)) (by decide) rfl ?_
  intro p e s m args below meth c s₁ B hml hv
  obtain ⟨rfl, hK, hE⟩ := hv
  have hx := B.exec
  have hb := B.bytes
  have hr := B.returns
  have hts := atoms_spec (ws := wsX6_wouldTurn) B.pre
  have hown : s.vm.findClass RX6 = some m.cls := findClass_of_methodNamed B.named
  have hlocks := B.notSynchronized
  have S : CallFix p m c cX6_wouldTurn 5 s (([.ref (a 0), .int (zI k), .int (zI w), .int (zI nt)] : List Value)).toArray wsX6_wouldTurn RX6 := ⟨hx, hb, hml, hown, hts⟩
  have hin4 : ∀ w ∈ wsX40, w ∈ wsX6_wouldTurn := by decide +kernel
  have hin6 : ∀ w ∈ wsX60, w ∈ wsX6_wouldTurn := by decide +kernel
  have hS : va_S (eC a) s.heap s.heap [] := va_S.rf
  have hl := lv_entry ([.ref (a 0), .int (zI k), .int (zI w), .int (zI nt)]) (n := 5) (Nat.le_of_ble_eq_true rfl)
  rw [lg_entry_eq]
  generalize (lg_sl ([.ref (a 0), .int (zI k), .int (zI w), .int (zI nt)]) ++ List.replicate (5 - (lg_sl ([.ref (a 0), .int (zI k), .int (zI w), .int (zI nt)])).length) Slot.unset).toArray = ls at hl ⊢
  have hl : lv_has ls 5 [(0, .ref (a 0)), (1, .int (zI k)), (2, .int (zI w)), (3, .int (zI nt))] := hl
  have h7 := hg.1.1
  have h8 := hg.1.2.1
  have hr0 := rOK_m hg hk
  refine lv_aload_n hx hb dX6_wouldTurn_0 rfl (lv_at hl 0 rfl) ?_
  refine e_g_house S hin6 hK hE (hts (.fieldLink RX6 10 "EnergyDiscs" "house" "LEnergyDiscs$House;") (by decide +kernel)) dX6_wouldTurn_1 ?_
  refine lv_iload_n hx hb dX6_wouldTurn_4 rfl (lv_at hl 1 rfl) ?_
  refine x_callVR (As := [.int (zI k)]) (rest := []) S hK (c_X2_meterAt_ok l D cs (ehs a 0) τ k (by omega) (by omega)) (cwV 1 hts gX6_wouldTurn_X2_meterAt rfl rfl rfl (by decide +kernel) ⟨(Nat.le_of_ble_eq_true rfl), (Nat.le_of_ble_eq_true rfl)⟩) (x_rc hK (hsAt_0 (hAt_hs (eAt_H hE))) rfl) (eAt_H hE) rfl hl.1 (Nat.le_of_ble_eq_true rfl) dX6_wouldTurn_5 ⟨Nat.zero_le _, Nat.zero_le _⟩ ?_
  refine lv_astore (lv' := [(4, .ref ((ehs a 0) (4 + k))), (0, .ref (a 0)), (1, .int (zI k)), (2, .int (zI w)), (3, .int (zI nt))]) hx hb dX6_wouldTurn_8 hl (by decide) rfl (fun ls hl => ?_)
  refine lv_aload hx hb dX6_wouldTurn_10 (lv_at hl 0 rfl) ?_
  refine lv_ifnonnull (tgt := 17) hx hb dX6_wouldTurn_12 (by decide) ?_
  refine lv_iload_n hx hb dX6_wouldTurn_17 rfl (lv_at hl 3 rfl) ?_
  refine x_iconst hx hb dX6_wouldTurn_18 ?_
  refine x_icmp_lt (tgt := 38) hx hb dX6_wouldTurn_19 (by decide) (by omega) (by omega) (fun c_19 => ?_) (fun c_19 => ?_)
  · exfalso; omega
  · refine lv_iload_n hx hb dX6_wouldTurn_22 rfl (lv_at hl 3 rfl) ?_
    refine x_sipush hx hb dX6_wouldTurn_23 (by decide +kernel) ?_
    refine x_icmp_gt (tgt := 38) hx hb dX6_wouldTurn_26 (by decide) (by omega) (by omega) (fun c_26 => ?_) (fun c_26 => ?_)
    · exfalso; omega
    · refine lv_iload_n hx hb dX6_wouldTurn_29 rfl (lv_at hl 4 rfl) ?_
      refine x_if_lt (tgt := 38) hx hb dX6_wouldTurn_30 (by decide) (by omega) (fun c_30 => ?_) (fun c_30 => ?_)
      · exfalso; omega
      · refine lv_iload_n hx hb dX6_wouldTurn_33 rfl (lv_at hl 4 rfl) ?_
        refine x_iconst hx hb dX6_wouldTurn_34 ?_
        refine x_icmp_le (tgt := 41) hx hb dX6_wouldTurn_35 (by decide) (by omega) (by omega) (fun c_35 => ?_) (fun c_35 => ?_)
        · refine lv_aload_n hx hb dX6_wouldTurn_41 rfl (lv_at hl 1 rfl) ?_
          refine e_g_probe S hin6 hK hE (hts (.fieldLink RX6 19 "EnergyDiscs" "probe" "LEnergyDiscs$Meter;") (by decide +kernel)) dX6_wouldTurn_42 ?_
          refine lv_aload hx hb dX6_wouldTurn_45 (lv_at hl 0 rfl) ?_
          refine x_callVMn (As := [.ref ((ehs a 0) (4 + k))]) (rest := []) S hK (c_X4_copyFrom l D cs (a 1) pr ((ehs a 0) (4 + k)) (mrec τ k) (by exact eI_1 hI (by decide) (by omega)) (by exact hr0.2.2.2)) (cwV 1 hts gX6_wouldTurn_X4_copyFrom rfl rfl rfl (by decide +kernel) ⟨(Nat.le_of_ble_eq_true rfl), (Nat.le_of_ble_eq_true rfl)⟩) (x_rc hK (eAt_T hE) rfl) ⟨(eAt_T hE), (hAt_m (eAt_H hE) (e := k) (by omega))⟩ rfl hl.1 (Nat.le_of_ble_eq_true rfl) dX6_wouldTurn_47 ⟨Nat.zero_le _, Nat.zero_le _⟩ hS eC_T (fun H locs hB hF hS => ?_)
          have hE : eAt D cs a τ ss hh ((mrec τ k)) pd ln fr kp su H := eAt_setT hE hI hB.1 hF
          refine lv_aload_n hx hb dX6_wouldTurn_50 rfl (lv_at hl 1 rfl) ?_
          refine e_g_house S hin6 hK hE (hts (.fieldLink RX6 10 "EnergyDiscs" "house" "LEnergyDiscs$House;") (by decide +kernel)) dX6_wouldTurn_51 ?_
          refine lv_aload_n hx hb dX6_wouldTurn_54 rfl (lv_at hl 1 rfl) ?_
          refine e_g_probe S hin6 hK hE (hts (.fieldLink RX6 19 "EnergyDiscs" "probe" "LEnergyDiscs$Meter;") (by decide +kernel)) dX6_wouldTurn_55 ?_
          refine lv_aload_n hx hb dX6_wouldTurn_58 rfl (lv_at hl 1 rfl) ?_
          refine e_g_house S hin6 hK hE (hts (.fieldLink RX6 10 "EnergyDiscs" "house" "LEnergyDiscs$House;") (by decide +kernel)) dX6_wouldTurn_59 ?_
          refine lv_iload_n hx hb dX6_wouldTurn_62 rfl (lv_at hl 2 rfl) ?_
          refine x_callVR (As := [.int (zI k)]) (rest := [.ref (a 1), .ref (ehs a 0 0)]) S hK (c_X2_powerOf l D cs (ehs a 0) τ k (by exact hg.1) (by omega)) (cwV 1 hts gX6_wouldTurn_X2_powerOf rfl rfl rfl (by decide +kernel) ⟨(Nat.le_of_ble_eq_true rfl), (Nat.le_of_ble_eq_true rfl)⟩) (x_rc hK (hsAt_0 (hAt_hs (eAt_H hE))) rfl) (eAt_H hE) rfl hl.1 (Nat.le_of_ble_eq_true rfl) dX6_wouldTurn_63 ⟨Nat.zero_le _, Nat.zero_le _⟩ ?_
          refine lv_iload_n hx hb dX6_wouldTurn_66 rfl (lv_at hl 3 rfl) ?_
          refine x_callVM (As := [.ref (a 1), .int (zI (cpow τ k)), .int (zI w)]) (rest := []) S hK (c_X2_runDisc l D cs (ehs a 0) τ (a 1) ((mrec τ k)) (cpow τ k) w (by exact hr0) (by exact hg.2.1) (by exact cpow_rng hg.1 k) (by omega) (by exact ⟨eI_1 hI (by decide) (by decide), eI_1 hI (by decide) (by decide)⟩)) (cwV 3 hts gX6_wouldTurn_X2_runDisc rfl rfl rfl (by decide +kernel) ⟨(Nat.le_of_ble_eq_true rfl), (Nat.le_of_ble_eq_true rfl)⟩) (x_rc hK (hsAt_0 (hAt_hs (eAt_H hE))) rfl) ⟨(hAt_hs (eAt_H hE)), (eAt_T hE)⟩ rfl hl.1 (Nat.le_of_ble_eq_true rfl) dX6_wouldTurn_67 ⟨Nat.zero_le _, Nat.zero_le _⟩ hS eC_T (fun H locs hB hF hS => ?_)
          have hE : eAt D cs a τ ss hh (miN ((mrec τ k)) (sset τ) (cpow τ k) (τ 6) w.toNat) pd ln fr kp su H := eAt_setT hE hI hB.2 hF
          refine lv_pop hx hb dX6_wouldTurn_70 rfl ?_
          refine lv_iload_n hx hb dX6_wouldTurn_71 rfl (lv_at hl 4 rfl) ?_
          refine x_iconst hx hb dX6_wouldTurn_72 ?_
          refine x_icmp_ne (tgt := 92) hx hb dX6_wouldTurn_73 (by decide) (by omega) (by omega) (fun c_73 => ?_) (fun c_73 => ?_)
          · refine lv_aload_n hx hb dX6_wouldTurn_92 rfl (lv_at hl 1 rfl) ?_
            refine e_g_probe S hin6 hK hE (hts (.fieldLink RX6 19 "EnergyDiscs" "probe" "LEnergyDiscs$Meter;") (by decide +kernel)) dX6_wouldTurn_93 ?_
            refine t_g_dayTurns S hin4 hK (eAt_T hE) (hts (.fieldLink RX6 86 "EnergyDiscs$Meter" "dayTurns" "I") (by decide +kernel)) dX6_wouldTurn_96 ?_
            refine lv_aload hx hb dX6_wouldTurn_99 (lv_at hl 0 rfl) ?_
            refine hm_g_dayTurns S hin4 hK (eAt_H hE) (el := k) (by omega) (hts (.fieldLink RX6 86 "EnergyDiscs$Meter" "dayTurns" "I") (by decide +kernel)) dX6_wouldTurn_101 ?_
            refine x_isub hx hb dX6_wouldTurn_104 ?_
            exact x_iretM hx hb hr hlocks (by first | (rw [if_pos (by omega)]) | (rw [if_neg (by omega)])) (eAt_cong hE rfl rfl rfl (by rfl) rfl rfl rfl rfl rfl) hS dX6_wouldTurn_105
          · refine lv_aload_n hx hb dX6_wouldTurn_76 rfl (lv_at hl 1 rfl) ?_
            refine e_g_probe S hin6 hK hE (hts (.fieldLink RX6 19 "EnergyDiscs" "probe" "LEnergyDiscs$Meter;") (by decide +kernel)) dX6_wouldTurn_77 ?_
            refine t_g_nightTurns S hin4 hK (eAt_T hE) (hts (.fieldLink RX6 94 "EnergyDiscs$Meter" "nightTurns" "I") (by decide +kernel)) dX6_wouldTurn_80 ?_
            refine lv_aload hx hb dX6_wouldTurn_83 (lv_at hl 0 rfl) ?_
            refine hm_g_nightTurns S hin4 hK (eAt_H hE) (el := k) (by omega) (hts (.fieldLink RX6 94 "EnergyDiscs$Meter" "nightTurns" "I") (by decide +kernel)) dX6_wouldTurn_85 ?_
            refine x_isub hx hb dX6_wouldTurn_88 ?_
            refine lv_goto (tgt := 105) hx hb dX6_wouldTurn_89 (by decide) ?_
            exact x_iretM hx hb hr hlocks (by first | (rw [if_pos (by omega)]) | (rw [if_neg (by omega)])) (eAt_cong hE rfl rfl rfl (by rfl) rfl rfl rfl rfl rfl) hS dX6_wouldTurn_105
        · exfalso; omega
set_option maxHeartbeats 4000000 in
set_option maxRecDepth 100000 in
theorem c_X6_worst (l : Launch) (D : va_G) (cs : Nat → ClassId) (a : Int → Nat) (τ : Int → Int) (ss : Int → Int → Int) (hh : Int → Int → Int) (pr : Int → Int) (pd : Int → Int) (ln : Int) (fr : Int) (kp : Int) (su : Int → Int) (hg : gOK τ 0) (hu : ∀ j : Int, 0 ≤ j → j < τ 7 → uOK (mrec τ j)) : kR D cs l yX6_worst wsX6_worst ({ frames := 3, cells := 0, slots := 0, locals := 62 } : Room) [.ref (a 0)] (fun H => eAt D cs a τ ss hh pr pd ln fr kp su H) (some (.int (zI (if τ 7 = 0 then -6 else mmC τ (τ 7 - 1).toNat)))) := by
  refine Met.ofW (cc := cX6_worst) (maxL := 1) (ret := (some .int)) (by decide) rfl ?_
  intro p e s m args below meth c s₁ B hml hv
  obtain ⟨rfl, hK, hE⟩ := hv
  have hx := B.exec
  have hb := B.bytes
  have hr := B.returns
  have hts := atoms_spec (ws := wsX6_worst) B.pre
  have hown : s.vm.findClass RX6 = some m.cls := findClass_of_methodNamed B.named
  have hlocks := B.notSynchronized
  have S : CallFix p m c cX6_worst 1 s (([.ref (a 0)] : List Value)).toArray wsX6_worst RX6 := ⟨hx, hb, hml, hown, hts⟩
  have hin6 : ∀ w ∈ wsX60, w ∈ wsX6_worst := by decide +kernel
  have hl := lv_entry ([.ref (a 0)]) (n := 1) (Nat.le_of_ble_eq_true rfl)
  rw [lg_entry_eq]
  generalize (lg_sl ([.ref (a 0)]) ++ List.replicate (1 - (lg_sl ([.ref (a 0)])).length) Slot.unset).toArray = ls at hl ⊢
  have hl : lv_has ls 1 [(0, .ref (a 0))] := hl
  have h7 := hg.1.1
  have h8 := hg.1.2.1
  refine lv_aload_n hx hb dX6_worst_0 rfl (lv_at hl 0 rfl) ?_
  refine e_g_house S hin6 hK hE (hts (.fieldLink RX6 10 "EnergyDiscs" "house" "LEnergyDiscs$House;") (by decide +kernel)) dX6_worst_1 ?_
  refine x_callVR (As := []) (rest := []) S hK (c_X2_mostMissing l D cs (ehs a 0) τ (by omega) (by exact hu)) (cwV 0 hts gX6_worst_X2_mostMissing rfl rfl rfl (by decide +kernel) ⟨(Nat.le_of_ble_eq_true rfl), (Nat.le_of_ble_eq_true rfl)⟩) (x_rc hK (hsAt_0 (hAt_hs (eAt_H hE))) rfl) (eAt_H hE) rfl hl.1 (Nat.le_of_ble_eq_true rfl) dX6_worst_4 ⟨Nat.zero_le _, Nat.zero_le _⟩ ?_
  exact x_iretR hx hb hr hlocks (by first | rfl | omega) rfl dX6_worst_7
set_option maxHeartbeats 4000000 in
set_option maxRecDepth 100000 in
theorem c_X6_lags_bad (l : Launch) (D : va_G) (cs : Nat → ClassId) (a : Int → Nat) (τ : Int → Int) (ss : Int → Int → Int) (hh : Int → Int → Int) (pr : Int → Int) (pd : Int → Int) (ln : Int) (fr : Int) (kp : Int) (su : Int → Int) (k : Int) (hg : gOK τ 0) (hk : -2147483648 ≤ k ∧ k < 2147483648) (hn : ¬ (0 ≤ k ∧ k < τ 7)) : kR D cs l yX6_lags wsX6_lags ({ frames := 2, cells := 0, slots := 0, locals := 43 } : Room) [.ref (a 0), .int (zI k)] (fun H => eAt D cs a τ ss hh pr pd ln fr kp su H) (some (.int (zI (-1)))) := by
  refine Met.ofW (cc := cX6_lags) (maxL := 2) (ret := (some .int)) (by decide) rfl ?_
  intro p e s m args below meth c s₁ B hml hv
  obtain ⟨rfl, hK, hE⟩ := hv
  have hx := B.exec
  have hb := B.bytes
  have hr := B.returns
  have hts := atoms_spec (ws := wsX6_lags) B.pre
  have hown : s.vm.findClass RX6 = some m.cls := findClass_of_methodNamed B.named
  have hlocks := B.notSynchronized
  have S : CallFix p m c cX6_lags 2 s (([.ref (a 0), .int (zI k)] : List Value)).toArray wsX6_lags RX6 := ⟨hx, hb, hml, hown, hts⟩
  have hin6 : ∀ w ∈ wsX60, w ∈ wsX6_lags := by decide +kernel
  have hl := lv_entry ([.ref (a 0), .int (zI k)]) (n := 2) (Nat.le_of_ble_eq_true rfl)
  rw [lg_entry_eq]
  generalize (lg_sl ([.ref (a 0), .int (zI k)]) ++ List.replicate (2 - (lg_sl ([.ref (a 0), .int (zI k)])).length) Slot.unset).toArray = ls at hl ⊢
  have hl : lv_has ls 2 [(0, .ref (a 0)), (1, .int (zI k))] := hl
  have h7 := hg.1.1
  have h8 := hg.1.2.1
  refine lv_aload_n hx hb dX6_lags_0 rfl (lv_at hl 0 rfl) ?_
  refine e_g_house S hin6 hK hE (hts (.fieldLink RX6 10 "EnergyDiscs" "house" "LEnergyDiscs$House;") (by decide +kernel)) dX6_lags_1 ?_
  refine lv_iload_n hx hb dX6_lags_4 rfl (lv_at hl 1 rfl) ?_
  refine x_callVR (As := [.int (zI k)]) (rest := []) S hK (c_X2_meterAt_no l D cs (ehs a 0) τ k (by omega) (by omega) (by omega)) (cwV 1 hts gX6_lags_X2_meterAt rfl rfl rfl (by decide +kernel) ⟨(Nat.le_of_ble_eq_true rfl), (Nat.le_of_ble_eq_true rfl)⟩) (x_rc hK (hsAt_0 (hAt_hs (eAt_H hE))) rfl) (eAt_H hE) rfl hl.1 (Nat.le_of_ble_eq_true rfl) dX6_lags_5 ⟨Nat.zero_le _, Nat.zero_le _⟩ ?_
  refine lv_ifnonnullN hx hb dX6_lags_8 ?_
  refine x_iconst hx hb dX6_lags_11 ?_
  refine lv_goto (tgt := 26) hx hb dX6_lags_12 (by decide) ?_
  exact x_iretR hx hb hr hlocks (by first | rfl | omega) rfl dX6_lags_26
set_option maxHeartbeats 4000000 in
set_option maxRecDepth 100000 in
theorem c_X6_lags_ok (l : Launch) (D : va_G) (cs : Nat → ClassId) (a : Int → Nat) (τ : Int → Int) (ss : Int → Int → Int) (hh : Int → Int → Int) (pr : Int → Int) (pd : Int → Int) (ln : Int) (fr : Int) (kp : Int) (su : Int → Int) (k : Int) (hg : gOK τ 0) (hk : (0 ≤ k ∧ k < τ 7)) : kR D cs l yX6_lags wsX6_lags ({ frames := 2, cells := 0, slots := 0, locals := 43 } : Room) [.ref (a 0), .int (zI k)] (fun H => eAt D cs a τ ss hh pr pd ln fr kp su H) (some (.int (zI (tbC τ k (τ 7 - k - 1).toNat - trn τ k + 10000000)))) := by
  refine Met.ofW (cc := cX6_lags) (maxL := 2) (ret := (some .int)) (by decide) rfl ?_
  intro p e s m args below meth c s₁ B hml hv
  obtain ⟨rfl, hK, hE⟩ := hv
  have hx := B.exec
  have hb := B.bytes
  have hr := B.returns
  have hts := atoms_spec (ws := wsX6_lags) B.pre
  have hown : s.vm.findClass RX6 = some m.cls := findClass_of_methodNamed B.named
  have hlocks := B.notSynchronized
  have S : CallFix p m c cX6_lags 2 s (([.ref (a 0), .int (zI k)] : List Value)).toArray wsX6_lags RX6 := ⟨hx, hb, hml, hown, hts⟩
  have hin6 : ∀ w ∈ wsX60, w ∈ wsX6_lags := by decide +kernel
  have hl := lv_entry ([.ref (a 0), .int (zI k)]) (n := 2) (Nat.le_of_ble_eq_true rfl)
  rw [lg_entry_eq]
  generalize (lg_sl ([.ref (a 0), .int (zI k)]) ++ List.replicate (2 - (lg_sl ([.ref (a 0), .int (zI k)])).length) Slot.unset).toArray = ls at hl ⊢
  have hl : lv_has ls 2 [(0, .ref (a 0)), (1, .int (zI k))] := hl
  have h7 := hg.1.1
  have h8 := hg.1.2.1
  refine lv_aload_n hx hb dX6_lags_0 rfl (lv_at hl 0 rfl) ?_
  refine e_g_house S hin6 hK hE (hts (.fieldLink RX6 10 "EnergyDiscs" "house" "LEnergyDiscs$House;") (by decide +kernel)) dX6_lags_1 ?_
  refine lv_iload_n hx hb dX6_lags_4 rfl (lv_at hl 1 rfl) ?_
  refine x_callVR (As := [.int (zI k)]) (rest := []) S hK (c_X2_meterAt_ok l D cs (ehs a 0) τ k (by omega) (by omega)) (cwV 1 hts gX6_lags_X2_meterAt rfl rfl rfl (by decide +kernel) ⟨(Nat.le_of_ble_eq_true rfl), (Nat.le_of_ble_eq_true rfl)⟩) (x_rc hK (hsAt_0 (hAt_hs (eAt_H hE))) rfl) (eAt_H hE) rfl hl.1 (Nat.le_of_ble_eq_true rfl) dX6_lags_5 ⟨Nat.zero_le _, Nat.zero_le _⟩ ?_
  refine lv_ifnonnull (tgt := 15) hx hb dX6_lags_8 (by decide) ?_
  refine lv_aload_n hx hb dX6_lags_15 rfl (lv_at hl 0 rfl) ?_
  refine e_g_house S hin6 hK hE (hts (.fieldLink RX6 10 "EnergyDiscs" "house" "LEnergyDiscs$House;") (by decide +kernel)) dX6_lags_16 ?_
  refine lv_iload_n hx hb dX6_lags_19 rfl (lv_at hl 1 rfl) ?_
  refine x_callVR (As := [.int (zI k)]) (rest := []) S hK (c_X2_turnsBehind l D cs (ehs a 0) τ k (by exact hg.1) (by omega)) (cwV 1 hts gX6_lags_X2_turnsBehind rfl rfl rfl (by decide +kernel) ⟨(Nat.le_of_ble_eq_true rfl), (Nat.le_of_ble_eq_true rfl)⟩) (x_rc hK (hsAt_0 (hAt_hs (eAt_H hE))) rfl) (eAt_H hE) rfl hl.1 (Nat.le_of_ble_eq_true rfl) dX6_lags_20 ⟨Nat.zero_le _, Nat.zero_le _⟩ ?_
  refine x_ldc (v := 10000000) hx hb hown (hts (.constant RX6 221 (zI 10000000)) (by decide +kernel)) dX6_lags_23 ?_
  refine x_iadd hx hb dX6_lags_25 ?_
  exact x_iretR hx hb hr hlocks (by first | rfl | omega) rfl dX6_lags_26
set_option maxHeartbeats 4000000 in
set_option maxRecDepth 100000 in
theorem c_X6_wipe (l : Launch) (D : va_G) (cs : Nat → ClassId) (a : Int → Nat) (τ : Int → Int) (ss : Int → Int → Int) (hh : Int → Int → Int) (pr : Int → Int) (pd : Int → Int) (ln : Int) (fr : Int) (kp : Int) (su : Int → Int) (hI : eI a) : kM D cs l yX6_wipe wsX6_wipe ({ frames := 1, cells := 0, slots := 0, locals := 20 } : Room) [.ref (a 0)] (fun H => eAt D cs a τ ss hh pr pd ln fr kp su H) (some (.int (zI ln))) (fun H => eAt D cs a τ ss hh pr pd 0 fr kp su H) (eC a) := by
  refine Met.ofW (cc := cX6_wipe) (maxL := 2) (ret := (some .int)) (by decide) rfl ?_
  intro p e s m args below meth c s₁ B hml hv
  obtain ⟨rfl, hK, hE⟩ := hv
  have hx := B.exec
  have hb := B.bytes
  have hr := B.returns
  have hts := atoms_spec (ws := wsX6_wipe) B.pre
  have hown : s.vm.findClass RX6 = some m.cls := findClass_of_methodNamed B.named
  have hlocks := B.notSynchronized
  have S : CallFix p m c cX6_wipe 2 s (([.ref (a 0)] : List Value)).toArray wsX6_wipe RX6 := ⟨hx, hb, hml, hown, hts⟩
  have hin5 : ∀ w ∈ wsX50, w ∈ wsX6_wipe := by decide +kernel
  have hin6 : ∀ w ∈ wsX60, w ∈ wsX6_wipe := by decide +kernel
  have hS : va_S (eC a) s.heap s.heap [] := va_S.rf
  have hl := lv_entry ([.ref (a 0)]) (n := 2) (Nat.le_of_ble_eq_true rfl)
  rw [lg_entry_eq]
  generalize (lg_sl ([.ref (a 0)]) ++ List.replicate (2 - (lg_sl ([.ref (a 0)])).length) Slot.unset).toArray = ls at hl ⊢
  have hl : lv_has ls 2 [(0, .ref (a 0))] := hl
  refine lv_aload_n hx hb dX6_wipe_0 rfl (lv_at hl 0 rfl) ?_
  refine e_g_pad S hin6 hK hE (hts (.fieldLink RX6 26 "EnergyDiscs" "pad" "LEnergyDiscs$Pad;") (by decide +kernel)) dX6_wipe_1 ?_
  refine p_g_length S hin5 hK (eAt_P hE) (hts (.fieldLink RX6 104 "EnergyDiscs$Pad" "length" "I") (by decide +kernel)) dX6_wipe_4 ?_
  refine lv_istore_n (lv' := [(1, .int (zI ln)), (0, .ref (a 0))]) hx hb dX6_wipe_7 rfl hl (by decide) rfl (fun ls hl => ?_)
  refine lv_aload_n hx hb dX6_wipe_8 rfl (lv_at hl 1 rfl) ?_
  refine e_g_pad S hin6 hK hE (hts (.fieldLink RX6 26 "EnergyDiscs" "pad" "LEnergyDiscs$Pad;") (by decide +kernel)) dX6_wipe_9 ?_
  refine x_callVMn (As := []) (rest := []) S hK (c_X5_clear l D cs (epd a) pd ln (by exact eI_P hI)) (cwV 0 hts gX6_wipe_X5_clear rfl rfl rfl (by decide +kernel) ⟨(Nat.le_of_ble_eq_true rfl), (Nat.le_of_ble_eq_true rfl)⟩) (x_rc hK (pAt_0 (eAt_P hE)) rfl) (eAt_P hE) rfl hl.1 (Nat.le_of_ble_eq_true rfl) dX6_wipe_12 ⟨Nat.zero_le _, Nat.zero_le _⟩ hS eC_P (fun H locs hB hF hS => ?_)
  have hE : eAt D cs a τ ss hh pr pd 0 fr kp su H := eAt_setP hE hI hB hF
  refine lv_iload_n hx hb dX6_wipe_15 rfl (lv_at hl 0 rfl) ?_
  exact x_iretM hx hb hr hlocks (by first | rfl | omega) hE hS dX6_wipe_16
set_option maxHeartbeats 4000000 in
set_option maxRecDepth 100000 in
theorem c_X6_fault (l : Launch) (D : va_G) (cs : Nat → ClassId) (a : Int → Nat) (τ : Int → Int) (ss : Int → Int → Int) (hh : Int → Int → Int) (pr : Int → Int) (pd : Int → Int) (ln : Int) (fr : Int) (kp : Int) (su : Int → Int) (hl0 : 0 ≤ ln ∧ ln ≤ 80) (hp0 : ∀ i : Int, 0 ≤ i → i < ln → 0 ≤ pd i ∧ pd i < 65536) : kR D cs l yX6_fault wsX6_fault ({ frames := 3, cells := 0, slots := 0, locals := 64 } : Room) [.ref (a 0)] (fun H => eAt D cs a τ ss hh pr pd ln fr kp su H) (some (.int (zI (fO pd ln ln.toNat 0 1)))) := by
  refine Met.ofW (cc := cX6_fault) (maxL := 1) (ret := (some .int)) (by decide) rfl ?_
  intro p e s m args below meth c s₁ B hml hv
  obtain ⟨rfl, hK, hE⟩ := hv
  have hx := B.exec
  have hb := B.bytes
  have hr := B.returns
  have hts := atoms_spec (ws := wsX6_fault) B.pre
  have hown : s.vm.findClass RX6 = some m.cls := findClass_of_methodNamed B.named
  have hlocks := B.notSynchronized
  have S : CallFix p m c cX6_fault 1 s (([.ref (a 0)] : List Value)).toArray wsX6_fault RX6 := ⟨hx, hb, hml, hown, hts⟩
  have hin6 : ∀ w ∈ wsX60, w ∈ wsX6_fault := by decide +kernel
  have hl := lv_entry ([.ref (a 0)]) (n := 1) (Nat.le_of_ble_eq_true rfl)
  rw [lg_entry_eq]
  generalize (lg_sl ([.ref (a 0)]) ++ List.replicate (1 - (lg_sl ([.ref (a 0)])).length) Slot.unset).toArray = ls at hl ⊢
  have hl : lv_has ls 1 [(0, .ref (a 0))] := hl
  refine lv_aload_n hx hb dX6_fault_0 rfl (lv_at hl 0 rfl) ?_
  refine e_g_pad S hin6 hK hE (hts (.fieldLink RX6 26 "EnergyDiscs" "pad" "LEnergyDiscs$Pad;") (by decide +kernel)) dX6_fault_1 ?_
  refine x_callSR (As := [.ref (epd a 0)]) (rest := []) S hK (c_X0_faultOf l D cs (epd a) pd ln (by omega) (by exact hp0)) (va_cwS 1 hts gX6_fault_X0_faultOf rfl rfl rfl (by decide +kernel) ⟨(Nat.le_of_ble_eq_true rfl), (Nat.le_of_ble_eq_true rfl)⟩) (eAt_P hE) rfl hl.1 (Nat.le_of_ble_eq_true rfl) dX6_fault_4 ⟨Nat.zero_le _, Nat.zero_le _⟩ ?_
  exact x_iretR hx hb hr hlocks (by first | rfl | omega) rfl dX6_fault_7
set_option maxHeartbeats 4000000 in
set_option maxRecDepth 100000 in
theorem c_X6_undo_bad (l : Launch) (D : va_G) (cs : Nat → ClassId) (a : Int → Nat) (τ : Int → Int) (ss : Int → Int → Int) (hh : Int → Int → Int) (pr : Int → Int) (pd : Int → Int) (ln : Int) (fr : Int) (kp : Int) (su : Int → Int) (hkp : kp = 0) : kR D cs l yX6_undo wsX6_undo ({ frames := 2, cells := 0, slots := 0, locals := 43 } : Room) [.ref (a 0)] (fun H => eAt D cs a τ ss hh pr pd ln fr kp su H) (some (.int (zI (-5)))) := by
  refine Met.ofW (cc := cX6_undo) (maxL := 1) (ret := (some .int)) (by decide) rfl ?_
  intro p e s m args below meth c s₁ B hml hv
  obtain ⟨rfl, hK, hE⟩ := hv
  have hx := B.exec
  have hb := B.bytes
  have hr := B.returns
  have hts := atoms_spec (ws := wsX6_undo) B.pre
  have hown : s.vm.findClass RX6 = some m.cls := findClass_of_methodNamed B.named
  have hlocks := B.notSynchronized
  have S : CallFix p m c cX6_undo 1 s (([.ref (a 0)] : List Value)).toArray wsX6_undo RX6 := ⟨hx, hb, hml, hown, hts⟩
  have hin1 : ∀ w ∈ wsX10, w ∈ wsX6_undo := by decide +kernel
  have hin6 : ∀ w ∈ wsX60, w ∈ wsX6_undo := by decide +kernel
  have hl := lv_entry ([.ref (a 0)]) (n := 1) (Nat.le_of_ble_eq_true rfl)
  rw [lg_entry_eq]
  generalize (lg_sl ([.ref (a 0)]) ++ List.replicate (1 - (lg_sl ([.ref (a 0)])).length) Slot.unset).toArray = ls at hl ⊢
  have hl : lv_has ls 1 [(0, .ref (a 0))] := hl
  refine lv_aload_n hx hb dX6_undo_0 rfl (lv_at hl 0 rfl) ?_
  refine e_g_history S hin6 hK hE (hts (.fieldLink RX6 33 "EnergyDiscs" "history" "LEnergyDiscs$History;") (by decide +kernel)) dX6_undo_1 ?_
  refine e_g_kept S hin1 hK hE (hts (.fieldLink RX6 196 "EnergyDiscs$History" "kept" "I") (by decide +kernel)) dX6_undo_4 ?_
  refine x_if_ne (tgt := 13) hx hb dX6_undo_7 (by decide) (by omega) (fun c_7 => ?_) (fun c_7 => ?_)
  · exfalso; omega
  · refine x_bipush hx hb dX6_undo_10 (by decide +kernel) ?_
    exact x_iretR hx hb hr hlocks (by first | rfl | omega) rfl dX6_undo_12
set_option maxHeartbeats 4000000 in
set_option maxRecDepth 100000 in
theorem c_X6_undo_ok (l : Launch) (D : va_G) (cs : Nat → ClassId) (a : Int → Nat) (τ : Int → Int) (ss : Int → Int → Int) (hh : Int → Int → Int) (pr : Int → Int) (pd : Int → Int) (ln : Int) (fr : Int) (kp : Int) (su : Int → Int) (hI : eI a) (hfr : 0 ≤ fr ∧ fr < 7) (hkp : 1 ≤ kp ∧ kp ≤ 6) (hg2 : gOK (hh ((fr + 6) % 7)) 0) : kM D cs l yX6_undo wsX6_undo ({ frames := 2, cells := 0, slots := 0, locals := 43 } : Room) [.ref (a 0)] (fun H => eAt D cs a τ ss hh pr pd ln fr kp su H) (some (.int (zI (kp - 1)))) (fun H => eAt D cs a (cpH τ (hh ((fr + 6) % 7))) ss hh pr pd ln ((fr + 6) % 7) (kp - 1) su H) (eC a) := by
  refine Met.ofW (cc := cX6_undo) (maxL := 1) (ret := (some .int)) (by decide) rfl ?_
  intro p e s m args below meth c s₁ B hml hv
  obtain ⟨rfl, hK, hE⟩ := hv
  have hx := B.exec
  have hb := B.bytes
  have hr := B.returns
  have hts := atoms_spec (ws := wsX6_undo) B.pre
  have hown : s.vm.findClass RX6 = some m.cls := findClass_of_methodNamed B.named
  have hlocks := B.notSynchronized
  have S : CallFix p m c cX6_undo 1 s (([.ref (a 0)] : List Value)).toArray wsX6_undo RX6 := ⟨hx, hb, hml, hown, hts⟩
  have hin1 : ∀ w ∈ wsX10, w ∈ wsX6_undo := by decide +kernel
  have hin6 : ∀ w ∈ wsX60, w ∈ wsX6_undo := by decide +kernel
  have hS : va_S (eC a) s.heap s.heap [] := va_S.rf
  have hl := lv_entry ([.ref (a 0)]) (n := 1) (Nat.le_of_ble_eq_true rfl)
  rw [lg_entry_eq]
  generalize (lg_sl ([.ref (a 0)]) ++ List.replicate (1 - (lg_sl ([.ref (a 0)])).length) Slot.unset).toArray = ls at hl ⊢
  have hl : lv_has ls 1 [(0, .ref (a 0))] := hl
  refine lv_aload_n hx hb dX6_undo_0 rfl (lv_at hl 0 rfl) ?_
  refine e_g_history S hin6 hK hE (hts (.fieldLink RX6 33 "EnergyDiscs" "history" "LEnergyDiscs$History;") (by decide +kernel)) dX6_undo_1 ?_
  refine e_g_kept S hin1 hK hE (hts (.fieldLink RX6 196 "EnergyDiscs$History" "kept" "I") (by decide +kernel)) dX6_undo_4 ?_
  refine x_if_ne (tgt := 13) hx hb dX6_undo_7 (by decide) (by omega) (fun c_7 => ?_) (fun c_7 => ?_)
  · refine lv_aload_n hx hb dX6_undo_13 rfl (lv_at hl 0 rfl) ?_
    refine e_g_house S hin6 hK hE (hts (.fieldLink RX6 10 "EnergyDiscs" "house" "LEnergyDiscs$House;") (by decide +kernel)) dX6_undo_14 ?_
    refine lv_aload_n hx hb dX6_undo_17 rfl (lv_at hl 0 rfl) ?_
    refine e_g_history S hin6 hK hE (hts (.fieldLink RX6 33 "EnergyDiscs" "history" "LEnergyDiscs$History;") (by decide +kernel)) dX6_undo_18 ?_
    refine x_callVM (As := []) (rest := [.ref (ehs a 0 0)]) S hK (c_X1_takeLatest l D cs a τ ss hh pr pd ln fr kp su (by first | exact hI | exact eI_H hI (by omega)) (by omega) (by omega)) (cwV 0 hts gX6_undo_X1_takeLatest rfl rfl rfl (by decide +kernel) ⟨(Nat.le_of_ble_eq_true rfl), (Nat.le_of_ble_eq_true rfl)⟩) (x_rc hK (eAt_4 hE) rfl) hE rfl hl.1 (Nat.le_of_ble_eq_true rfl) dX6_undo_21 ⟨Nat.zero_le _, Nat.zero_le _⟩ hS (fun q hq => hq) (fun H locs hB hF hS => ?_)
    have hE : eAt D cs a τ ss hh pr pd ln ((fr + 6) % 7) (kp - 1) su H := hB
    refine x_callVMn (As := [.ref (ehs a (3 + (fr + 6) % 7) 0)]) (rest := []) S hK (c_X2_copyFrom l D cs (ehs a 0) τ (ehs a (3 + ((fr + 6) % 7))) (hh ((fr + 6) % 7)) (by first | exact hI | exact eI_H hI (by omega)) (by exact eI_dis hI (by omega) (by omega) (by omega)) (by exact hg2)) (cwV 1 hts gX6_undo_X2_copyFrom rfl rfl rfl (by decide +kernel) ⟨(Nat.le_of_ble_eq_true rfl), (Nat.le_of_ble_eq_true rfl)⟩) (x_rc hK (hsAt_0 (hAt_hs (eAt_H hE))) rfl) ⟨(eAt_H hE), (eAt_I hE (k := (fr + 6) % 7) (by omega))⟩ rfl hl.1 (Nat.le_of_ble_eq_true rfl) dX6_undo_24 ⟨Nat.zero_le _, Nat.zero_le _⟩ hS (eC_H (by decide)) (fun H locs hB hF hS => ?_)
    have hE : eAt D cs a (cpH τ (hh ((fr + 6) % 7))) ss hh pr pd ln ((fr + 6) % 7) (kp - 1) su H := eAt_setH hE hI hB.1 hF
    refine lv_aload_n hx hb dX6_undo_27 rfl (lv_at hl 0 rfl) ?_
    refine e_g_history S hin6 hK hE (hts (.fieldLink RX6 33 "EnergyDiscs" "history" "LEnergyDiscs$History;") (by decide +kernel)) dX6_undo_28 ?_
    refine e_g_kept S hin1 hK hE (hts (.fieldLink RX6 196 "EnergyDiscs$History" "kept" "I") (by decide +kernel)) dX6_undo_31 ?_
    exact x_iretM hx hb hr hlocks (by first | rfl | omega) hE hS dX6_undo_34
  · exfalso; omega