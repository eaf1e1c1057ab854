set_option maxHeartbeats 4000000 in
set_option maxRecDepth 100000 in
theorem c_X7_meter_bad (l : Launch) (D : va_G) (cs : Nat → ClassId) (a : Int → Nat) (σ : Int → Int) (pa : Int → Int) (sl : Int → Int) (sv : Int → Int) (pd : Int → Int) (kn : Int) (ln : Int) (k : Int) (h7 : 0 ≤ σ 7 ∧ σ 7 ≤ 7) (hk : -2147483648 ≤ k ∧ k < 2147483648) (hn : wnM σ k < 0) : kR D cs l yX7_meter wsX7_meter ({ frames := 3, cells := 0, slots := 0, locals := 64 } : Room) [.ref (a 0), .int (zI k)] (fun H => mAt D cs a σ pa sl sv pd kn ln H) (some (.int (zI (wnM σ k)))) := by
  refine Met.ofW (cc := cX7_meter) (maxL := 3) (ret := (some .int)) (by decide) rfl ?_
  intro p e s m args below meth c s₁ B hml hv
  obtain ⟨rfl, hK, hM⟩ := hv
  have hx := B.exec
  have hb := B.bytes
  have hr := B.returns
  have hts := atoms_spec (ws := wsX7_meter) B.pre
  have hown : s.vm.findClass RX7 = some m.cls := findClass_of_methodNamed B.named
  have hlocks := B.notSynchronized
  have S : CallFix p m c cX7_meter 3 s (([.ref (a 0), .int (zI k)] : List Value)).toArray wsX7_meter RX7 := ⟨hx, hb, hml, hown, hts⟩
  have hl := lv_entry ([.ref (a 0), .int (zI k)]) (n := 3) (Nat.le_of_ble_eq_true rfl)
  rw [lg_entry_eq]
  generalize (lg_sl ([.ref (a 0), .int (zI k)]) ++ List.replicate (3 - (lg_sl ([.ref (a 0), .int (zI k)])).length) Slot.unset).toArray = ls at hl ⊢
  have hl : lv_has ls 3 [(0, .ref (a 0)), (1, .int (zI k))] := hl
  have hr0 := wnM_rng σ k
  refine lv_aload_n hx hb dX7_meter_0 rfl (lv_at hl 0 rfl) ?_
  refine lv_iload_n hx hb dX7_meter_1 rfl (lv_at hl 1 rfl) ?_
  refine x_callVR (As := [.int (zI k)]) (rest := []) S hK (c_X7_whyNotMeter l D cs a σ pa sl sv pd kn ln k (by omega) (by omega)) (cwV 1 hts gX7_meter_X7_whyNotMeter rfl rfl rfl (by decide +kernel) ⟨(Nat.le_of_ble_eq_true rfl), (Nat.le_of_ble_eq_true rfl)⟩) (x_rc hK (mAt_0 hM) rfl) hM rfl hl.1 (Nat.le_of_ble_eq_true rfl) dX7_meter_2 ⟨Nat.zero_le _, Nat.zero_le _⟩ ?_
  refine lv_istore_n (lv' := [(2, .int (zI (wnM σ k))), (0, .ref (a 0)), (1, .int (zI k))]) hx hb dX7_meter_5 rfl hl (by decide) rfl (fun ls hl => ?_)
  refine lv_iload_n hx hb dX7_meter_6 rfl (lv_at hl 0 rfl) ?_
  refine x_if_ge (tgt := 12) hx hb dX7_meter_7 (by decide) (by omega) (fun c_7 => ?_) (fun c_7 => ?_)
  · exact absurd hn (by omega)
  · refine lv_iload_n hx hb dX7_meter_10 rfl (lv_at hl 0 rfl) ?_
    exact x_iretR hx hb hr hlocks (by first | rfl | omega) rfl dX7_meter_11
set_option maxHeartbeats 4000000 in
set_option maxRecDepth 100000 in
theorem c_X7_meter_ok (l : Launch) (D : va_G) (cs : Nat → ClassId) (a : Int → Nat) (σ : Int → Int) (pa : Int → Int) (sl : Int → Int) (sv : Int → Int) (pd : Int → Int) (kn : Int) (ln : Int) (k : Int) (h7 : 0 ≤ σ 7 ∧ σ 7 ≤ 7) (hk : -2147483648 ≤ k ∧ k < 2147483648) (hn : wnM σ k = 0) (hkn : 0 ≤ kn ∧ kn ≤ 6) (hI : mI a) : kM D cs l yX7_meter wsX7_meter ({ frames := 3, cells := 0, slots := 0, locals := 64 } : Room) [.ref (a 0), .int (zI k)] (fun H => mAt D cs a σ pa sl sv pd kn ln H) (some (.int (zI (σ 7)))) (fun H => mAt D cs a (comF σ k) (remP σ pa kn) sl sv pd (remK kn) ln H) (mC a) := by
  refine Met.ofW (cc := cX7_meter) (maxL := 3) (ret := (some .int)) (by decide) rfl ?_
  intro p e s m args below meth c s₁ B hml hv
  obtain ⟨rfl, hK, hM⟩ := hv
  have hx := B.exec
  have hb := B.bytes
  have hr := B.returns
  have hts := atoms_spec (ws := wsX7_meter) B.pre
  have hown : s.vm.findClass RX7 = some m.cls := findClass_of_methodNamed B.named
  have hlocks := B.notSynchronized
  have S : CallFix p m c cX7_meter 3 s (([.ref (a 0), .int (zI k)] : List Value)).toArray wsX7_meter RX7 := ⟨hx, hb, hml, hown, hts⟩
  have hS : va_S (mC a) s.heap s.heap [] := va_S.rf
  have hl := lv_entry ([.ref (a 0), .int (zI k)]) (n := 3) (Nat.le_of_ble_eq_true rfl)
  rw [lg_entry_eq]
  generalize (lg_sl ([.ref (a 0), .int (zI k)]) ++ List.replicate (3 - (lg_sl ([.ref (a 0), .int (zI k)])).length) Slot.unset).toArray = ls at hl ⊢
  have hl : lv_has ls 3 [(0, .ref (a 0)), (1, .int (zI k))] := hl
  have hr0 := wnM_0 hn h7
  refine lv_aload_n hx hb dX7_meter_0 rfl (lv_at hl 0 rfl) ?_
  refine lv_iload_n hx hb dX7_meter_1 rfl (lv_at hl 1 rfl) ?_
  refine x_callVR (As := [.int (zI k)]) (rest := []) S hK (c_X7_whyNotMeter l D cs a σ pa sl sv pd kn ln k (by omega) (by omega)) (cwV 1 hts gX7_meter_X7_whyNotMeter rfl rfl rfl (by decide +kernel) ⟨(Nat.le_of_ble_eq_true rfl), (Nat.le_of_ble_eq_true rfl)⟩) (x_rc hK (mAt_0 hM) rfl) hM rfl hl.1 (Nat.le_of_ble_eq_true rfl) dX7_meter_2 ⟨Nat.zero_le _, Nat.zero_le _⟩ ?_
  refine lv_istore_n (lv' := [(2, .int (zI (wnM σ k))), (0, .ref (a 0)), (1, .int (zI k))]) hx hb dX7_meter_5 rfl hl (by decide) rfl (fun ls hl => ?_)
  refine lv_iload_n hx hb dX7_meter_6 rfl (lv_at hl 0 rfl) ?_
  refine x_if_ge (tgt := 12) hx hb dX7_meter_7 (by decide) (by omega) (fun c_7 => ?_) (fun c_7 => ?_)
  · refine lv_aload_n hx hb dX7_meter_12 rfl (lv_at hl 1 rfl) ?_
    refine x_callVMn (As := []) (rest := []) S hK (c_X7_remembers l D cs a σ pa sl sv pd kn ln (by omega) (by omega)) (cwV 0 hts gX7_meter_X7_remembers rfl rfl rfl (by decide +kernel) ⟨(Nat.le_of_ble_eq_true rfl), (Nat.le_of_ble_eq_true rfl)⟩) (x_rc hK (mAt_0 hM) rfl) hM rfl hl.1 (Nat.le_of_ble_eq_true rfl) dX7_meter_13 ⟨Nat.zero_le _, Nat.zero_le _⟩ hS (fun q hq => hq) (fun H locs hB hF hS => ?_)
    have hM : mAt D cs a σ (remP σ pa kn) sl sv pd (remK kn) ln H := hB
    refine lv_aload_n hx hb dX7_meter_16 rfl (lv_at hl 1 rfl) ?_
    refine lv_iload_n hx hb dX7_meter_17 rfl (lv_at hl 2 rfl) ?_
    refine x_callVM (As := [.int (zI k)]) (rest := []) S hK (c_X7_comes l D cs a σ (remP σ pa kn) sl sv pd (remK kn) ln k (by omega) (by omega) (by omega)) (cwV 1 hts gX7_meter_X7_comes rfl rfl rfl (by decide +kernel) ⟨(Nat.le_of_ble_eq_true rfl), (Nat.le_of_ble_eq_true rfl)⟩) (x_rc hK (mAt_0 hM) rfl) hM rfl hl.1 (Nat.le_of_ble_eq_true rfl) dX7_meter_18 ⟨Nat.zero_le _, Nat.zero_le _⟩ hS (fun q hq => hq) (fun H locs hB hF hS => ?_)
    have hM : mAt D cs a (comF σ k) (remP σ pa kn) sl sv pd (remK kn) ln H := hB
    exact x_iretM hx hb hr hlocks (by first | rfl | omega) hM hS dX7_meter_21
  · exact absurd hn (by omega)
set_option maxHeartbeats 4000000 in
set_option maxRecDepth 100000 in
theorem c_X7_whyNotLoad (l : Launch) (D : va_G) (cs : Nat → ClassId) (a : Int → Nat) (σ : Int → Int) (pa : Int → Int) (sl : Int → Int) (sv : Int → Int) (pd : Int → Int) (kn : Int) (ln : Int) (k : Int) (w : Int) (h7 : 0 ≤ σ 7 ∧ σ 7 ≤ 7) (h8 : 0 ≤ σ 8 ∧ σ 8 ≤ 12) (hk : -2147483648 ≤ k ∧ k < 2147483648) (hw : -2147483648 ≤ w ∧ w < 2147483648) : kR D cs l yX7_whyNotLoad wsX7_whyNotLoad ({ frames := 2, cells := 0, slots := 0, locals := 43 } : Room) [.ref (a 0), .int (zI k), .int (zI w)] (fun H => mAt D cs a σ pa sl sv pd kn ln H) (some (.int (zI (wnL σ k w)))) := by
  refine Met.ofW (cc := cX7_whyNotLoad) (maxL := 3) (ret := (some .int)) (by decide) rfl ?_
  intro p e s m args below meth c s₁ B hml hv
  obtain ⟨rfl, hK, hM⟩ := hv
  have hx := B.exec
  have hb := B.bytes
  have hr := B.returns
  have hts := atoms_spec (ws := wsX7_whyNotLoad) B.pre
  have hown : s.vm.findClass RX7 = some m.cls := findClass_of_methodNamed B.named
  have hlocks := B.notSynchronized
  have S : CallFix p m c cX7_whyNotLoad 3 s (([.ref (a 0), .int (zI k), .int (zI w)] : List Value)).toArray wsX7_whyNotLoad RX7 := ⟨hx, hb, hml, hown, hts⟩
  have hl := lv_entry ([.ref (a 0), .int (zI k), .int (zI w)]) (n := 3) (Nat.le_of_ble_eq_true rfl)
  rw [lg_entry_eq]
  generalize (lg_sl ([.ref (a 0), .int (zI k), .int (zI w)]) ++ List.replicate (3 - (lg_sl ([.ref (a 0), .int (zI k), .int (zI w)])).length) Slot.unset).toArray = ls at hl ⊢
  have hl : lv_has ls 3 [(0, .ref (a 0)), (1, .int (zI k)), (2, .int (zI w))] := hl
  refine lv_aload_n hx hb dX7_whyNotLoad_0 rfl (lv_at hl 0 rfl) ?_
  refine lv_iload_n hx hb dX7_whyNotLoad_1 rfl (lv_at hl 1 rfl) ?_
  refine x_callVR (As := [.int (zI k)]) (rest := []) S hK (c_X7_isMeter l D cs a σ pa sl sv pd kn ln k (by omega) (by omega)) (cwV 1 hts gX7_whyNotLoad_X7_isMeter rfl rfl rfl (by decide +kernel) ⟨(Nat.le_of_ble_eq_true rfl), (Nat.le_of_ble_eq_true rfl)⟩) (x_rc hK (mAt_0 hM) rfl) hM rfl hl.1 (Nat.le_of_ble_eq_true rfl) dX7_whyNotLoad_2 ⟨Nat.zero_le _, Nat.zero_le _⟩ ?_
  refine x_ifb_ne (tgt := 12) hx hb dX7_whyNotLoad_5 (by decide)  (fun c_5 => ?_) (fun c_5 => ?_)
  · refine lv_iload_n hx hb dX7_whyNotLoad_12 rfl (lv_at hl 2 rfl) ?_
    refine x_iconst hx hb dX7_whyNotLoad_13 ?_
    refine x_sipush hx hb dX7_whyNotLoad_14 (by decide +kernel) ?_
    refine x_callSR (As := [.int (zI w), .int (zI 1), .int (zI 4000)]) (rest := []) S hK (c_X7_in l D cs w 1 4000 (by omega) (by omega) (by omega)) (va_cwS 3 hts gX7_whyNotLoad_X7_in rfl rfl rfl (by decide +kernel) ⟨(Nat.le_of_ble_eq_true rfl), (Nat.le_of_ble_eq_true rfl)⟩) trivial rfl hl.1 (Nat.le_of_ble_eq_true rfl) dX7_whyNotLoad_17 ⟨Nat.zero_le _, Nat.zero_le _⟩ ?_
    refine x_ifb_ne (tgt := 28) hx hb dX7_whyNotLoad_20 (by decide)  (fun c_20 => ?_) (fun c_20 => ?_)
    · refine lv_aload_n hx hb dX7_whyNotLoad_28 rfl (lv_at hl 0 rfl) ?_
      refine x_bipush hx hb dX7_whyNotLoad_29 (by decide +kernel) ?_
      refine x_callVR (As := [.int (zI 8)]) (rest := []) S hK (c_X7_num l D cs a σ pa sl sv pd kn ln 8 (by omega)) (cwV 1 hts gX7_whyNotLoad_X7_num rfl rfl rfl (by decide +kernel) ⟨(Nat.le_of_ble_eq_true rfl), (Nat.le_of_ble_eq_true rfl)⟩) (x_rc hK (mAt_0 hM) rfl) hM rfl hl.1 (Nat.le_of_ble_eq_true rfl) dX7_whyNotLoad_31 ⟨Nat.zero_le _, Nat.zero_le _⟩ ?_
      refine x_bipush hx hb dX7_whyNotLoad_34 (by decide +kernel) ?_
      refine x_icmp_ne (tgt := 44) hx hb dX7_whyNotLoad_36 (by decide) (by omega) (by omega) (fun c_36 => ?_) (fun c_36 => ?_)
      · refine x_iconst hx hb dX7_whyNotLoad_44 ?_
        exact x_iretR hx hb hr hlocks (by unfold wnL; repeat (first | rw [if_pos (by omega)] | rw [if_neg (by omega)])) rfl dX7_whyNotLoad_45
      · refine x_bipush hx hb dX7_whyNotLoad_39 (by decide +kernel) ?_
        refine lv_goto (tgt := 45) hx hb dX7_whyNotLoad_41 (by decide) ?_
        exact x_iretR hx hb hr hlocks (by unfold wnL; repeat (first | rw [if_pos (by omega)] | rw [if_neg (by omega)])) rfl dX7_whyNotLoad_45
    · refine x_bipush hx hb dX7_whyNotLoad_23 (by decide +kernel) ?_
      refine lv_goto (tgt := 45) hx hb dX7_whyNotLoad_25 (by decide) ?_
      exact x_iretR hx hb hr hlocks (by unfold wnL; repeat (first | rw [if_pos (by omega)] | rw [if_neg (by omega)])) rfl dX7_whyNotLoad_45
  · refine x_iconst hx hb dX7_whyNotLoad_8 ?_
    refine lv_goto (tgt := 45) hx hb dX7_whyNotLoad_9 (by decide) ?_
    exact x_iretR hx hb hr hlocks (by unfold wnL; repeat (first | rw [if_pos (by omega)] | rw [if_neg (by omega)])) rfl dX7_whyNotLoad_45
set_option maxHeartbeats 4000000 in
set_option maxRecDepth 100000 in
theorem c_X7_loads (l : Launch) (D : va_G) (cs : Nat → ClassId) (a : Int → Nat) (σ : Int → Int) (pa : Int → Int) (sl : Int → Int) (sv : Int → Int) (pd : Int → Int) (kn : Int) (ln : Int) (k : Int) (w : Int) (h8 : 0 ≤ σ 8 ∧ σ 8 < 12) (hk : -2147483648 ≤ k ∧ k < 2147483648) (hw : -2147483648 ≤ w ∧ w < 2147483648) (hI : mI a) : kM D cs l yX7_loads wsX7_loads ({ frames := 1, cells := 0, slots := 0, locals := 21 } : Room) [.ref (a 0), .int (zI k), .int (zI w)] (fun H => mAt D cs a σ pa sl sv pd kn ln H) (some (.int (zI (σ 8)))) (fun H => mAt D cs a (ldF σ k w) pa sl sv pd kn ln H) (mC a) := by
  refine Met.ofW (cc := cX7_loads) (maxL := 4) (ret := (some .int)) (by decide) rfl ?_
  intro p e s m args below meth c s₁ B hml hv
  obtain ⟨rfl, hK, hM⟩ := hv
  have hx := B.exec
  have hb := B.bytes
  have hr := B.returns
  have hts := atoms_spec (ws := wsX7_loads) B.pre
  have hown : s.vm.findClass RX7 = some m.cls := findClass_of_methodNamed B.named
  have hlocks := B.notSynchronized
  have S : CallFix p m c cX7_loads 4 s (([.ref (a 0), .int (zI k), .int (zI w)] : List Value)).toArray wsX7_loads RX7 := ⟨hx, hb, hml, hown, hts⟩
  have hin7 : ∀ w ∈ wsX70, w ∈ wsX7_loads := by decide +kernel
  have hS : va_S (mC a) s.heap s.heap [] := va_S.rf
  have hl := lv_entry ([.ref (a 0), .int (zI k), .int (zI w)]) (n := 4) (Nat.le_of_ble_eq_true rfl)
  rw [lg_entry_eq]
  generalize (lg_sl ([.ref (a 0), .int (zI k), .int (zI w)]) ++ List.replicate (4 - (lg_sl ([.ref (a 0), .int (zI k), .int (zI w)])).length) Slot.unset).toArray = ls at hl ⊢
  have hl : lv_has ls 4 [(0, .ref (a 0)), (1, .int (zI k)), (2, .int (zI w))] := hl
  refine x_bipush hx hb dX7_loads_0 (by decide +kernel) ?_
  refine x_iconst hx hb dX7_loads_2 ?_
  refine lv_aload_n hx hb dX7_loads_3 rfl (lv_at hl 0 rfl) ?_
  refine x_bipush hx hb dX7_loads_4 (by decide +kernel) ?_
  refine x_callVR (As := [.int (zI 8)]) (rest := [.int (zI 3), .int (zI 102)]) S hK (c_X7_num l D cs a σ pa sl sv pd kn ln 8 (by omega)) (cwV 1 hts gX7_loads_X7_num rfl rfl rfl (by decide +kernel) ⟨(Nat.le_of_ble_eq_true rfl), (Nat.le_of_ble_eq_true rfl)⟩) (x_rc hK (mAt_0 hM) rfl) hM rfl hl.1 (Nat.le_of_ble_eq_true rfl) dX7_loads_6 ⟨Nat.zero_le _, Nat.zero_le _⟩ ?_
  refine x_imul hx hb dX7_loads_9 ?_
  refine x_iadd hx hb dX7_loads_10 ?_
  refine lv_istore_n (lv' := [(3, .int (zI (102 + (3 * (σ 8))))), (0, .ref (a 0)), (1, .int (zI k)), (2, .int (zI w))]) hx hb dX7_loads_11 rfl hl (by decide) rfl (fun ls hl => ?_)
  refine lv_aload_n hx hb dX7_loads_12 rfl (lv_at hl 1 rfl) ?_
  refine m_g_s S hin7 hK hM (hts (.fieldLink RX7 7 "EnergyDiscsModel" "s" "[J") (by decide +kernel)) dX7_loads_13 ?_
  refine lv_iload_n hx hb dX7_loads_16 rfl (lv_at hl 0 rfl) ?_
  refine lv_iload_n hx hb dX7_loads_17 rfl (lv_at hl 2 rfl) ?_
  refine x_i2l hx hb (by omega) dX7_loads_18 ?_
  refine m_s_s S hK hM hI hS (by omega) dX7_loads_19 (fun H locs hM hS => ?_)
  refine lv_aload_n hx hb dX7_loads_20 rfl (lv_at hl 1 rfl) ?_
  refine m_g_s S hin7 hK hM (hts (.fieldLink RX7 7 "EnergyDiscsModel" "s" "[J") (by decide +kernel)) dX7_loads_21 ?_
  refine lv_iload_n hx hb dX7_loads_24 rfl (lv_at hl 0 rfl) ?_
  refine x_iconst hx hb dX7_loads_25 ?_
  refine x_iadd hx hb dX7_loads_26 ?_
  refine lv_iload_n hx hb dX7_loads_27 rfl (lv_at hl 3 rfl) ?_
  refine x_i2l hx hb (by omega) dX7_loads_28 ?_
  refine m_s_s S hK hM hI hS (by omega) dX7_loads_29 (fun H locs hM hS => ?_)
  refine lv_aload_n hx hb dX7_loads_30 rfl (lv_at hl 1 rfl) ?_
  refine m_g_s S hin7 hK hM (hts (.fieldLink RX7 7 "EnergyDiscsModel" "s" "[J") (by decide +kernel)) dX7_loads_31 ?_
  refine lv_iload_n hx hb dX7_loads_34 rfl (lv_at hl 0 rfl) ?_
  refine x_iconst hx hb dX7_loads_35 ?_
  refine x_iadd hx hb dX7_loads_36 ?_
  refine x_lconst (v := 0) hx hb dX7_loads_37 rfl ?_
  refine m_s_s S hK hM hI hS (by omega) dX7_loads_38 (fun H locs hM hS => ?_)
  have hM : mAt D cs a (ldA σ k w) pa sl sv pd kn ln H := hM
  refine lv_aload_n hx hb dX7_loads_39 rfl (lv_at hl 1 rfl) ?_
  refine m_g_s S hin7 hK hM (hts (.fieldLink RX7 7 "EnergyDiscsModel" "s" "[J") (by decide +kernel)) dX7_loads_40 ?_
  refine x_bipush hx hb dX7_loads_43 (by decide +kernel) ?_
  refine lv_dup2_11 hx hb dX7_loads_45 rfl rfl ?_
  refine m_l_s S hK hM (by omega) dX7_loads_46 ?_
  refine x_lconst (v := 1) hx hb dX7_loads_47 rfl ?_
  refine x_ladd hx hb dX7_loads_48 ?_
  refine m_s_s S hK hM hI hS (by omega) dX7_loads_49 (fun H locs hM hS => ?_)
  have hM : mAt D cs a (ldF σ k w) pa sl sv pd kn ln H := hM
  refine lv_aload_n hx hb dX7_loads_50 rfl (lv_at hl 1 rfl) ?_
  refine x_bipush hx hb dX7_loads_51 (by decide +kernel) ?_
  refine x_callVR (As := [.int (zI 8)]) (rest := []) S hK (c_X7_num l D cs a (ldF σ k w) pa sl sv pd kn ln 8 (by omega)) (cwV 1 hts gX7_loads_X7_num rfl rfl rfl (by decide +kernel) ⟨(Nat.le_of_ble_eq_true rfl), (Nat.le_of_ble_eq_true rfl)⟩) (x_rc hK (mAt_0 hM) rfl) hM rfl hl.1 (Nat.le_of_ble_eq_true rfl) dX7_loads_53 ⟨Nat.zero_le _, Nat.zero_le _⟩ ?_
  refine x_iconst hx hb dX7_loads_56 ?_
  refine x_isub hx hb dX7_loads_57 ?_
  exact x_iretM hx hb hr hlocks (by show ldF σ k w 8 - 1 = σ 8; unfold ldF; rw [up_s, ldA_8 h8.1]; omega) hM hS dX7_loads_58
set_option maxHeartbeats 4000000 in
set_option maxRecDepth 100000 in
theorem c_X7_load_bad (l : Launch) (D : va_G) (cs : Nat → ClassId) (a : Int → Nat) (σ : Int → Int) (pa : Int → Int) (sl : Int → Int) (sv : Int → Int) (pd : Int → Int) (kn : Int) (ln : Int) (k : Int) (w : Int) (h7 : 0 ≤ σ 7 ∧ σ 7 ≤ 7) (h8 : 0 ≤ σ 8 ∧ σ 8 ≤ 12) (hk : -2147483648 ≤ k ∧ k < 2147483648) (hw : -2147483648 ≤ w ∧ w < 2147483648) (hn : wnL σ k w < 0) : kR D cs l yX7_load wsX7_load ({ frames := 3, cells := 0, slots := 0, locals := 65 } : Room) [.ref (a 0), .int (zI k), .int (zI w)] (fun H => mAt D cs a σ pa sl sv pd kn ln H) (some (.int (zI (wnL σ k w)))) := by
  refine Met.ofW (cc := cX7_load) (maxL := 4) (ret := (some .int)) (by decide) rfl ?_
  intro p e s m args below meth c s₁ B hml hv
  obtain ⟨rfl, hK, hM⟩ := hv
  have hx := B.exec
  have hb := B.bytes
  have hr := B.returns
  have hts := atoms_spec (ws := wsX7_load) B.pre
  have hown : s.vm.findClass RX7 = some m.cls := findClass_of_methodNamed B.named
  have hlocks := B.notSynchronized
  have S : CallFix p m c cX7_load 4 s (([.ref (a 0), .int (zI k), .int (zI w)] : List Value)).toArray wsX7_load RX7 := ⟨hx, hb, hml, hown, hts⟩
  have hl := lv_entry ([.ref (a 0), .int (zI k), .int (zI w)]) (n := 4) (Nat.le_of_ble_eq_true rfl)
  rw [lg_entry_eq]
  generalize (lg_sl ([.ref (a 0), .int (zI k), .int (zI w)]) ++ List.replicate (4 - (lg_sl ([.ref (a 0), .int (zI k), .int (zI w)])).length) Slot.unset).toArray = ls at hl ⊢
  have hl : lv_has ls 4 [(0, .ref (a 0)), (1, .int (zI k)), (2, .int (zI w))] := hl
  have hr0 := wnL_rng σ k w
  refine lv_aload_n hx hb dX7_load_0 rfl (lv_at hl 0 rfl) ?_
  refine lv_iload_n hx hb dX7_load_1 rfl (lv_at hl 1 rfl) ?_
  refine lv_iload_n hx hb dX7_load_2 rfl (lv_at hl 2 rfl) ?_
  refine x_callVR (As := [.int (zI k), .int (zI w)]) (rest := []) S hK (c_X7_whyNotLoad l D cs a σ pa sl sv pd kn ln k w (by omega) (by omega) (by omega) (by omega)) (cwV 2 hts gX7_load_X7_whyNotLoad rfl rfl rfl (by decide +kernel) ⟨(Nat.le_of_ble_eq_true rfl), (Nat.le_of_ble_eq_true rfl)⟩) (x_rc hK (mAt_0 hM) rfl) hM rfl hl.1 (Nat.le_of_ble_eq_true rfl) dX7_load_3 ⟨Nat.zero_le _, Nat.zero_le _⟩ ?_
  refine lv_istore_n (lv' := [(3, .int (zI (wnL σ k w))), (0, .ref (a 0)), (1, .int (zI k)), (2, .int (zI w))]) hx hb dX7_load_6 rfl hl (by decide) rfl (fun ls hl => ?_)
  refine lv_iload_n hx hb dX7_load_7 rfl (lv_at hl 0 rfl) ?_
  refine x_if_ge (tgt := 13) hx hb dX7_load_8 (by decide) (by omega) (fun c_8 => ?_) (fun c_8 => ?_)
  · exact absurd hn (by omega)
  · refine lv_iload_n hx hb dX7_load_11 rfl (lv_at hl 0 rfl) ?_
    exact x_iretR hx hb hr hlocks (by first | rfl | omega) rfl dX7_load_12
set_option maxHeartbeats 4000000 in
set_option maxRecDepth 100000 in
theorem c_X7_load_ok (l : Launch) (D : va_G) (cs : Nat → ClassId) (a : Int → Nat) (σ : Int → Int) (pa : Int → Int) (sl : Int → Int) (sv : Int → Int) (pd : Int → Int) (kn : Int) (ln : Int) (k : Int) (w : Int) (h7 : 0 ≤ σ 7 ∧ σ 7 ≤ 7) (h8 : 0 ≤ σ 8 ∧ σ 8 ≤ 12) (hk : -2147483648 ≤ k ∧ k < 2147483648) (hw : -2147483648 ≤ w ∧ w < 2147483648) (hn : wnL σ k w = 0) (hkn : 0 ≤ kn ∧ kn ≤ 6) (hI : mI a) : kM D cs l yX7_load wsX7_load ({ frames := 3, cells := 0, slots := 0, locals := 65 } : Room) [.ref (a 0), .int (zI k), .int (zI w)] (fun H => mAt D cs a σ pa sl sv pd kn ln H) (some (.int (zI (σ 8)))) (fun H => mAt D cs a (ldF σ k w) (remP σ pa kn) sl sv pd (remK kn) ln H) (mC a) := by
  refine Met.ofW (cc := cX7_load) (maxL := 4) (ret := (some .int)) (by decide) rfl ?_
  intro p e s m args below meth c s₁ B hml hv
  obtain ⟨rfl, hK, hM⟩ := hv
  have hx := B.exec
  have hb := B.bytes
  have hr := B.returns
  have hts := atoms_spec (ws := wsX7_load) B.pre
  have hown : s.vm.findClass RX7 = some m.cls := findClass_of_methodNamed B.named
  have hlocks := B.notSynchronized
  have S : CallFix p m c cX7_load 4 s (([.ref (a 0), .int (zI k), .int (zI w)] : List Value)).toArray wsX7_load RX7 := ⟨hx, hb, hml, hown, hts⟩
  have hS : va_S (mC a) s.heap s.heap [] := va_S.rf
  have hl := lv_entry ([.ref (a 0), .int (zI k), .int (zI w)]) (n := 4) (Nat.le_of_ble_eq_true rfl)
  rw [lg_entry_eq]
  generalize (lg_sl ([.ref (a 0), .int (zI k), .int (zI w)]) ++ List.replicate (4 - (lg_sl ([.ref (a 0), .int (zI k), .int (zI w)])).length) Slot.unset).toArray = ls at hl ⊢
  have hl : lv_has ls 4 [(0, .ref (a 0)), (1, .int (zI k)), (2, .int (zI w))] := hl
  have hr0 := wnL_0 hn h8
  refine lv_aload_n hx hb dX7_load_0 rfl (lv_at hl 0 rfl) ?_
  refine lv_iload_n hx hb dX7_load_1 rfl (lv_at hl 1 rfl) ?_
  refine lv_iload_n hx hb dX7_load_2 rfl (lv_at hl 2 rfl) ?_
  refine x_callVR (As := [.int (zI k), .int (zI w)]) (rest := []) S hK (c_X7_whyNotLoad l D cs a σ pa sl sv pd kn ln k w (by omega) (by omega) (by omega) (by omega)) (cwV 2 hts gX7_load_X7_whyNotLoad rfl rfl rfl (by decide +kernel) ⟨(Nat.le_of_ble_eq_true rfl), (Nat.le_of_ble_eq_true rfl)⟩) (x_rc hK (mAt_0 hM) rfl) hM rfl hl.1 (Nat.le_of_ble_eq_true rfl) dX7_load_3 ⟨Nat.zero_le _, Nat.zero_le _⟩ ?_
  refine lv_istore_n (lv' := [(3, .int (zI (wnL σ k w))), (0, .ref (a 0)), (1, .int (zI k)), (2, .int (zI w))]) hx hb dX7_load_6 rfl hl (by decide) rfl (fun ls hl => ?_)
  refine lv_iload_n hx hb dX7_load_7 rfl (lv_at hl 0 rfl) ?_
  refine x_if_ge (tgt := 13) hx hb dX7_load_8 (by decide) (by omega) (fun c_8 => ?_) (fun c_8 => ?_)
  · refine lv_aload_n hx hb dX7_load_13 rfl (lv_at hl 1 rfl) ?_
    refine x_callVMn (As := []) (rest := []) S hK (c_X7_remembers l D cs a σ pa sl sv pd kn ln (by omega) (by omega)) (cwV 0 hts gX7_load_X7_remembers rfl rfl rfl (by decide +kernel) ⟨(Nat.le_of_ble_eq_true rfl), (Nat.le_of_ble_eq_true rfl)⟩) (x_rc hK (mAt_0 hM) rfl) hM rfl hl.1 (Nat.le_of_ble_eq_true rfl) dX7_load_14 ⟨Nat.zero_le _, Nat.zero_le _⟩ hS (fun q hq => hq) (fun H locs hB hF hS => ?_)
    have hM : mAt D cs a σ (remP σ pa kn) sl sv pd (remK kn) ln H := hB
    refine lv_aload_n hx hb dX7_load_17 rfl (lv_at hl 1 rfl) ?_
    refine lv_iload_n hx hb dX7_load_18 rfl (lv_at hl 2 rfl) ?_
    refine lv_iload_n hx hb dX7_load_19 rfl (lv_at hl 3 rfl) ?_
    refine x_callVM (As := [.int (zI k), .int (zI w)]) (rest := []) S hK (c_X7_loads l D cs a σ (remP σ pa kn) sl sv pd (remK kn) ln k w (by omega) (by omega) (by omega) (by omega)) (cwV 2 hts gX7_load_X7_loads rfl rfl rfl (by decide +kernel) ⟨(Nat.le_of_ble_eq_true rfl), (Nat.le_of_ble_eq_true rfl)⟩) (x_rc hK (mAt_0 hM) rfl) hM rfl hl.1 (Nat.le_of_ble_eq_true rfl) dX7_load_20 ⟨Nat.zero_le _, Nat.zero_le _⟩ hS (fun q hq => hq) (fun H locs hB hF hS => ?_)
    have hM : mAt D cs a (ldF σ k w) (remP σ pa kn) sl sv pd (remK kn) ln H := hB
    exact x_iretM hx hb hr hlocks (by first | rfl | omega) hM hS dX7_load_23
  · exact absurd hn (by omega)
set_option maxHeartbeats 4000000 in
set_option maxRecDepth 100000 in
theorem c_X7_isLoad (l : Launch) (D : va_G) (cs : Nat → ClassId) (a : Int → Nat) (σ : Int → Int) (pa : Int → Int) (sl : Int → Int) (sv : Int → Int) (pd : Int → Int) (kn : Int) (ln : Int) (k : Int) (h8 : 0 ≤ σ 8 ∧ σ 8 ≤ 12) (hk : -2147483648 ≤ k ∧ k < 2147483648) : kR D cs l yX7_isLoad wsX7_isLoad ({ frames := 1, cells := 0, slots := 0, locals := 22 } : Room) [.ref (a 0), .int (zI k)] (fun H => mAt D cs a σ pa sl sv pd kn ln H) (some (.int (zI (if 0 ≤ k ∧ k < σ 8 then 1 else 0)))) := by
  refine Met.ofW (cc := cX7_isLoad) (maxL := 2) (ret := (some .boolean)) (by decide) rfl ?_
  intro p e s m args below meth c s₁ B hml hv
  obtain ⟨rfl, hK, hM⟩ := hv
  have hx := B.exec
  have hb := B.bytes
  have hr := B.returns
  have hts := atoms_spec (ws := wsX7_isLoad) B.pre
  have hown : s.vm.findClass RX7 = some m.cls := findClass_of_methodNamed B.named
  have hlocks := B.notSynchronized
  have S : CallFix p m c cX7_isLoad 2 s (([.ref (a 0), .int (zI k)] : List Value)).toArray wsX7_isLoad RX7 := ⟨hx, hb, hml, hown, hts⟩
  have hl := lv_entry ([.ref (a 0), .int (zI k)]) (n := 2) (Nat.le_of_ble_eq_true rfl)
  rw [lg_entry_eq]
  generalize (lg_sl ([.ref (a 0), .int (zI k)]) ++ List.replicate (2 - (lg_sl ([.ref (a 0), .int (zI k)])).length) Slot.unset).toArray = ls at hl ⊢
  have hl : lv_has ls 2 [(0, .ref (a 0)), (1, .int (zI k))] := hl
  refine lv_iload_n hx hb dX7_isLoad_0 rfl (lv_at hl 1 rfl) ?_
  refine x_iconst hx hb dX7_isLoad_1 ?_
  refine lv_aload_n hx hb dX7_isLoad_2 rfl (lv_at hl 0 rfl) ?_
  refine x_bipush hx hb dX7_isLoad_3 (by decide +kernel) ?_
  refine x_callVR (As := [.int (zI 8)]) (rest := [.int (zI 0), .int (zI k)]) S hK (c_X7_num l D cs a σ pa sl sv pd kn ln 8 (by omega)) (cwV 1 hts gX7_isLoad_X7_num rfl rfl rfl (by decide +kernel) ⟨(Nat.le_of_ble_eq_true rfl), (Nat.le_of_ble_eq_true rfl)⟩) (x_rc hK (mAt_0 hM) rfl) hM rfl hl.1 (Nat.le_of_ble_eq_true rfl) dX7_isLoad_5 ⟨Nat.zero_le _, Nat.zero_le _⟩ ?_
  refine x_iconst hx hb dX7_isLoad_8 ?_
  refine x_isub hx hb dX7_isLoad_9 ?_
  refine x_callSR (As := [.int (zI k), .int (zI 0), .int (zI ((σ 8) - 1))]) (rest := []) S hK (c_X7_in l D cs k 0 ((σ 8) - 1) (by omega) (by omega) (by omega)) (va_cwS 3 hts gX7_isLoad_X7_in rfl rfl rfl (by decide +kernel) ⟨(Nat.le_of_ble_eq_true rfl), (Nat.le_of_ble_eq_true rfl)⟩) trivial rfl hl.1 (Nat.le_of_ble_eq_true rfl) dX7_isLoad_10 ⟨Nat.zero_le _, Nat.zero_le _⟩ ?_
  exact x_zretR hx hb hr hlocks (by by_cases h : 0 ≤ k ∧ k < σ 8 <;> simp [h] <;> omega) (by first | decide | exact Or.inl rfl | exact Or.inr rfl | (split <;> simp)) rfl dX7_isLoad_13
set_option maxHeartbeats 4000000 in
set_option maxRecDepth 100000 in
theorem c_X7_turns (l : Launch) (D : va_G) (cs : Nat → ClassId) (a : Int → Nat) (σ : Int → Int) (pa : Int → Int) (sl : Int → Int) (sv : Int → Int) (pd : Int → Int) (kn : Int) (ln : Int) (k : Int) (hk : 0 ≤ k ∧ k < 12) (hI : mI a) : kM D cs l yX7_turns wsX7_turns ({ frames := 1, cells := 0, slots := 0, locals := 21 } : Room) [.ref (a 0), .int (zI k)] (fun H => mAt D cs a σ pa sl sv pd kn ln H) (some (.int (zI (1 - σ (102 + 3 * k + 2))))) (fun H => mAt D cs a (tnF σ k) pa sl sv pd kn ln H) (mC a) := by
  refine Met.ofW (cc := cX7_turns) (maxL := 3) (ret := (some .int)) (by decide) rfl ?_
  intro p e s m args below meth c s₁ B hml hv
  obtain ⟨rfl, hK, hM⟩ := hv
  have hx := B.exec
  have hb := B.bytes
  have hr := B.returns
  have hts := atoms_spec (ws := wsX7_turns) B.pre
  have hown : s.vm.findClass RX7 = some m.cls := findClass_of_methodNamed B.named
  have hlocks := B.notSynchronized
  have S : CallFix p m c cX7_turns 3 s (([.ref (a 0), .int (zI k)] : List Value)).toArray wsX7_turns RX7 := ⟨hx, hb, hml, hown, hts⟩
  have hin7 : ∀ w ∈ wsX70, w ∈ wsX7_turns := by decide +kernel
  have hS : va_S (mC a) s.heap s.heap [] := va_S.rf
  have hl := lv_entry ([.ref (a 0), .int (zI k)]) (n := 3) (Nat.le_of_ble_eq_true rfl)
  rw [lg_entry_eq]
  generalize (lg_sl ([.ref (a 0), .int (zI k)]) ++ List.replicate (3 - (lg_sl ([.ref (a 0), .int (zI k)])).length) Slot.unset).toArray = ls at hl ⊢
  have hl : lv_has ls 3 [(0, .ref (a 0)), (1, .int (zI k))] := hl
  refine x_bipush hx hb dX7_turns_0 (by decide +kernel) ?_
  refine x_iconst hx hb dX7_turns_2 ?_
  refine lv_iload_n hx hb dX7_turns_3 rfl (lv_at hl 1 rfl) ?_
  refine x_imul hx hb dX7_turns_4 ?_
  refine x_iadd hx hb dX7_turns_5 ?_
  refine x_iconst hx hb dX7_turns_6 ?_
  refine x_iadd hx hb dX7_turns_7 ?_
  refine lv_istore_n (lv' := [(2, .int (zI ((102 + (3 * k)) + 2))), (0, .ref (a 0)), (1, .int (zI k))]) hx hb dX7_turns_8 rfl hl (by decide) rfl (fun ls hl => ?_)
  refine lv_aload_n hx hb dX7_turns_9 rfl (lv_at hl 1 rfl) ?_
  refine m_g_s S hin7 hK hM (hts (.fieldLink RX7 7 "EnergyDiscsModel" "s" "[J") (by decide +kernel)) dX7_turns_10 ?_
  refine lv_iload_n hx hb dX7_turns_13 rfl (lv_at hl 0 rfl) ?_
  refine x_lconst (v := 1) hx hb dX7_turns_14 rfl ?_
  refine lv_aload_n hx hb dX7_turns_15 rfl (lv_at hl 1 rfl) ?_
  refine m_g_s S hin7 hK hM (hts (.fieldLink RX7 7 "EnergyDiscsModel" "s" "[J") (by decide +kernel)) dX7_turns_16 ?_
  refine lv_iload_n hx hb dX7_turns_19 rfl (lv_at hl 0 rfl) ?_
  refine m_l_s S hK hM (by omega) dX7_turns_20 ?_
  refine x_lsub hx hb dX7_turns_21 ?_
  refine m_s_s S hK hM hI hS (by omega) dX7_turns_22 (fun H locs hM hS => ?_)
  refine lv_aload_n hx hb dX7_turns_23 rfl (lv_at hl 1 rfl) ?_
  refine lv_iload_n hx hb dX7_turns_24 rfl (lv_at hl 0 rfl) ?_
  refine x_callVR (As := [.int (zI ((102 + (3 * k)) + 2))]) (rest := []) S hK (c_X7_num l D cs a (up σ ((102 + (3 * k)) + 2) (1 - (σ ((102 + (3 * k)) + 2)))) pa sl sv pd kn ln ((102 + (3 * k)) + 2) (by omega)) (cwV 1 hts gX7_turns_X7_num rfl rfl rfl (by decide +kernel) ⟨(Nat.le_of_ble_eq_true rfl), (Nat.le_of_ble_eq_true rfl)⟩) (x_rc hK (mAt_0 hM) rfl) hM rfl hl.1 (Nat.le_of_ble_eq_true rfl) dX7_turns_25 ⟨Nat.zero_le _, Nat.zero_le _⟩ ?_
  exact x_iretM hx hb hr hlocks (by exact up_s _ _ _) (mAt_cong hM (by rfl) rfl rfl rfl rfl rfl rfl) hS dX7_turns_28
set_option maxHeartbeats 4000000 in
set_option maxRecDepth 100000 in
theorem c_X7_turn_bad (l : Launch) (D : va_G) (cs : Nat → ClassId) (a : Int → Nat) (σ : Int → Int) (pa : Int → Int) (sl : Int → Int) (sv : Int → Int) (pd : Int → Int) (kn : Int) (ln : Int) (k : Int) (h8 : 0 ≤ σ 8 ∧ σ 8 ≤ 12) (hk : -2147483648 ≤ k ∧ k < 2147483648) (hn : ¬ (0 ≤ k ∧ k < σ 8)) : kR D cs l yX7_turn wsX7_turn ({ frames := 2, cells := 0, slots := 0, locals := 43 } : Room) [.ref (a 0), .int (zI k)] (fun H => mAt D cs a σ pa sl sv pd kn ln H) (some (.int (zI (-1)))) := by
  refine Met.ofW (cc := cX7_turn) (maxL := 2) (ret := (some .int)) (by decide) rfl ?_
  intro p e s m args below meth c s₁ B hml hv
  obtain ⟨rfl, hK, hM⟩ := hv
  have hx := B.exec
  have hb := B.bytes
  have hr := B.returns
  have hts := atoms_spec (ws := wsX7_turn) B.pre
  have hown : s.vm.findClass RX7 = some m.cls := findClass_of_methodNamed B.named
  have hlocks := B.notSynchronized
  have S : CallFix p m c cX7_turn 2 s (([.ref (a 0), .int (zI k)] : List Value)).toArray wsX7_turn RX7 := ⟨hx, hb, hml, hown, hts⟩
  have hl := lv_entry ([.ref (a 0), .int (zI k)]) (n := 2) (Nat.le_of_ble_eq_true rfl)
  rw [lg_entry_eq]
  generalize (lg_sl ([.ref (a 0), .int (zI k)]) ++ List.replicate (2 - (lg_sl ([.ref (a 0), .int (zI k)])).length) Slot.unset).toArray = ls at hl ⊢
  have hl : lv_has ls 2 [(0, .ref (a 0)), (1, .int (zI k))] := hl
  refine lv_aload_n hx hb dX7_turn_0 rfl (lv_at hl 0 rfl) ?_
  refine lv_iload_n hx hb dX7_turn_1 rfl (lv_at hl 1 rfl) ?_
  refine x_callVR (As := [.int (zI k)]) (rest := []) S hK (c_X7_isLoad l D cs a σ pa sl sv pd kn ln k (by omega) (by omega)) (cwV 1 hts gX7_turn_X7_isLoad rfl rfl rfl (by decide +kernel) ⟨(Nat.le_of_ble_eq_true rfl), (Nat.le_of_ble_eq_true rfl)⟩) (x_rc hK (mAt_0 hM) rfl) hM rfl hl.1 (Nat.le_of_ble_eq_true rfl) dX7_turn_2 ⟨Nat.zero_le _, Nat.zero_le _⟩ ?_
  refine x_ifb_ne (tgt := 10) hx hb dX7_turn_5 (by decide)  (fun c_5 => ?_) (fun c_5 => ?_)
  · exact absurd c_5 hn
  · refine x_iconst hx hb dX7_turn_8 ?_
    exact x_iretR hx hb hr hlocks (by first | rfl | omega) rfl dX7_turn_9
set_option maxHeartbeats 4000000 in
set_option maxRecDepth 100000 in
theorem c_X7_turn_ok (l : Launch) (D : va_G) (cs : Nat → ClassId) (a : Int → Nat) (σ : Int → Int) (pa : Int → Int) (sl : Int → Int) (sv : Int → Int) (pd : Int → Int) (kn : Int) (ln : Int) (k : Int) (h8 : 0 ≤ σ 8 ∧ σ 8 ≤ 12) (hk : 0 ≤ k ∧ k < σ 8) (hkn : 0 ≤ kn ∧ kn ≤ 6) (hI : mI a) : kM D cs l yX7_turn wsX7_turn ({ frames := 2, cells := 0, slots := 0, locals := 43 } : Room) [.ref (a 0), .int (zI k)] (fun H => mAt D cs a σ pa sl sv pd kn ln H) (some (.int (zI (1 - σ (102 + 3 * k + 2))))) (fun H => mAt D cs a (tnF σ k) (remP σ pa kn) sl sv pd (remK kn) ln H) (mC a) := by
  refine Met.ofW (cc := cX7_turn) (maxL := 2) (ret := (some .int)) (by decide) rfl ?_
  intro p e s m args below meth c s₁ B hml hv
  obtain ⟨rfl, hK, hM⟩ := hv
  have hx := B.exec
  have hb := B.bytes
  have hr := B.returns
  have hts := atoms_spec (ws := wsX7_turn) B.pre
  have hown : s.vm.findClass RX7 = some m.cls := findClass_of_methodNamed B.named
  have hlocks := B.notSynchronized
  have S : CallFix p m c cX7_turn 2 s (([.ref (a 0), .int (zI k)] : List Value)).toArray wsX7_turn RX7 := ⟨hx, hb, hml, hown, hts⟩
  have hS : va_S (mC a) s.heap s.heap [] := va_S.rf
  have hl := lv_entry ([.ref (a 0), .int (zI k)]) (n := 2) (Nat.le_of_ble_eq_true rfl)
  rw [lg_entry_eq]
  generalize (lg_sl ([.ref (a 0), .int (zI k)]) ++ List.replicate (2 - (lg_sl ([.ref (a 0), .int (zI k)])).length) Slot.unset).toArray = ls at hl ⊢
  have hl : lv_has ls 2 [(0, .ref (a 0)), (1, .int (zI k))] := hl
  refine lv_aload_n hx hb dX7_turn_0 rfl (lv_at hl 0 rfl) ?_
  refine lv_iload_n hx hb dX7_turn_1 rfl (lv_at hl 1 rfl) ?_
  refine x_callVR (As := [.int (zI k)]) (rest := []) S hK (c_X7_isLoad l D cs a σ pa sl sv pd kn ln k (by omega) (by omega)) (cwV 1 hts gX7_turn_X7_isLoad rfl rfl rfl (by decide +kernel) ⟨(Nat.le_of_ble_eq_true rfl), (Nat.le_of_ble_eq_true rfl)⟩) (x_rc hK (mAt_0 hM) rfl) hM rfl hl.1 (Nat.le_of_ble_eq_true rfl) dX7_turn_2 ⟨Nat.zero_le _, Nat.zero_le _⟩ ?_
  refine x_ifb_ne (tgt := 10) hx hb dX7_turn_5 (by decide)  (fun c_5 => ?_) (fun c_5 => ?_)
  · refine lv_aload_n hx hb dX7_turn_10 rfl (lv_at hl 0 rfl) ?_
    refine x_callVMn (As := []) (rest := []) S hK (c_X7_remembers l D cs a σ pa sl sv pd kn ln (by omega) (by omega)) (cwV 0 hts gX7_turn_X7_remembers rfl rfl rfl (by decide +kernel) ⟨(Nat.le_of_ble_eq_true rfl), (Nat.le_of_ble_eq_true rfl)⟩) (x_rc hK (mAt_0 hM) rfl) hM rfl hl.1 (Nat.le_of_ble_eq_true rfl) dX7_turn_11 ⟨Nat.zero_le _, Nat.zero_le _⟩ hS (fun q hq => hq) (fun H locs hB hF hS => ?_)
    have hM : mAt D cs a σ (remP σ pa kn) sl sv pd (remK kn) ln H := hB
    refine lv_aload_n hx hb dX7_turn_14 rfl (lv_at hl 0 rfl) ?_
    refine lv_iload_n hx hb dX7_turn_15 rfl (lv_at hl 1 rfl) ?_
    refine x_callVM (As := [.int (zI k)]) (rest := []) S hK (c_X7_turns l D cs a σ (remP σ pa kn) sl sv pd (remK kn) ln k (by omega) (by omega)) (cwV 1 hts gX7_turn_X7_turns rfl rfl rfl (by decide +kernel) ⟨(Nat.le_of_ble_eq_true rfl), (Nat.le_of_ble_eq_true rfl)⟩) (x_rc hK (mAt_0 hM) rfl) hM rfl hl.1 (Nat.le_of_ble_eq_true rfl) dX7_turn_16 ⟨Nat.zero_le _, Nat.zero_le _⟩ hS (fun q hq => hq) (fun H locs hB hF hS => ?_)
    have hM : mAt D cs a (tnF σ k) (remP σ pa kn) sl sv pd (remK kn) ln H := hB
    exact x_iretM hx hb hr hlocks (by first | rfl | omega) hM hS dX7_turn_19
  · exact absurd hk c_5
set_option maxHeartbeats 4000000 in
set_option maxRecDepth 100000 in
theorem c_X7_whyNotTamper (l : Launch) (D : va_G) (cs : Nat → ClassId) (a : Int → Nat) (σ : Int → Int) (pa : Int → Int) (sl : Int → Int) (sv : Int → Int) (pd : Int → Int) (kn : Int) (ln : Int) (k : Int) (h7 : 0 ≤ σ 7 ∧ σ 7 ≤ 7) (hk : -2147483648 ≤ k ∧ k < 2147483648) (hb0 : 0 ≤ k → k < σ 7 → σ (11 + 13 * k + 7) = 0 ∨ σ (11 + 13 * k + 7) = 1) : kR D cs l yX7_whyNotTamper wsX7_whyNotTamper ({ frames := 2, cells := 0, slots := 0, locals := 43 } : Room) [.ref (a 0), .int (zI k)] (fun H => mAt D cs a σ pa sl sv pd kn ln H) (some (.int (zI (wnT σ k)))) := by
  refine Met.ofW (cc := cX7_whyNotTamper) (maxL := 2) (ret := (some .int)) (by decide) rfl ?_
  intro p e s m args below meth c s₁ B hml hv
  obtain ⟨rfl, hK, hM⟩ := hv
  have hx := B.exec
  have hb := B.bytes
  have hr := B.returns
  have hts := atoms_spec (ws := wsX7_whyNotTamper) B.pre
  have hown : s.vm.findClass RX7 = some m.cls := findClass_of_methodNamed B.named
  have hlocks := B.notSynchronized
  have S : CallFix p m c cX7_whyNotTamper 2 s (([.ref (a 0), .int (zI k)] : List Value)).toArray wsX7_whyNotTamper RX7 := ⟨hx, hb, hml, hown, hts⟩
  have hl := lv_entry ([.ref (a 0), .int (zI k)]) (n := 2) (Nat.le_of_ble_eq_true rfl)
  rw [lg_entry_eq]
  generalize (lg_sl ([.ref (a 0), .int (zI k)]) ++ List.replicate (2 - (lg_sl ([.ref (a 0), .int (zI k)])).length) Slot.unset).toArray = ls at hl ⊢
  have hl : lv_has ls 2 [(0, .ref (a 0)), (1, .int (zI k))] := hl
  refine lv_aload_n hx hb dX7_whyNotTamper_0 rfl (lv_at hl 0 rfl) ?_
  refine lv_iload_n hx hb dX7_whyNotTamper_1 rfl (lv_at hl 1 rfl) ?_
  refine x_callVR (As := [.int (zI k)]) (rest := []) S hK (c_X7_isMeter l D cs a σ pa sl sv pd kn ln k (by omega) (by omega)) (cwV 1 hts gX7_whyNotTamper_X7_isMeter rfl rfl rfl (by decide +kernel) ⟨(Nat.le_of_ble_eq_true rfl), (Nat.le_of_ble_eq_true rfl)⟩) (x_rc hK (mAt_0 hM) rfl) hM rfl hl.1 (Nat.le_of_ble_eq_true rfl) dX7_whyNotTamper_2 ⟨Nat.zero_le _, Nat.zero_le _⟩ ?_
  refine x_ifb_ne (tgt := 12) hx hb dX7_whyNotTamper_5 (by decide)  (fun c_5 => ?_) (fun c_5 => ?_)
  · have hb1 := hb0 (by omega) (by omega)
    refine lv_aload_n hx hb dX7_whyNotTamper_12 rfl (lv_at hl 0 rfl) ?_
    refine lv_iload_n hx hb dX7_whyNotTamper_13 rfl (lv_at hl 1 rfl) ?_
    refine x_bipush hx hb dX7_whyNotTamper_14 (by decide +kernel) ?_
    refine x_callVR (As := [.int (zI k), .int (zI 7)]) (rest := []) S hK (c_X7_its l D cs a σ pa sl sv pd kn ln k 7 (by omega) (by omega)) (cwV 2 hts gX7_whyNotTamper_X7_its rfl rfl rfl (by decide +kernel) ⟨(Nat.le_of_ble_eq_true rfl), (Nat.le_of_ble_eq_true rfl)⟩) (x_rc hK (mAt_0 hM) rfl) hM rfl hl.1 (Nat.le_of_ble_eq_true rfl) dX7_whyNotTamper_16 ⟨Nat.zero_le _, Nat.zero_le _⟩ ?_
    refine x_iconst hx hb dX7_whyNotTamper_19 ?_
    refine x_icmp_ne (tgt := 28) hx hb dX7_whyNotTamper_20 (by decide) (by omega) (by omega) (fun c_20 => ?_) (fun c_20 => ?_)
    · refine x_iconst hx hb dX7_whyNotTamper_28 ?_
      exact x_iretR hx hb hr hlocks (by unfold wnT; repeat (first | rw [if_pos (by omega)] | rw [if_neg (by omega)])) rfl dX7_whyNotTamper_29
    · refine x_bipush hx hb dX7_whyNotTamper_23 (by decide +kernel) ?_
      refine lv_goto (tgt := 29) hx hb dX7_whyNotTamper_25 (by decide) ?_
      exact x_iretR hx hb hr hlocks (by unfold wnT; repeat (first | rw [if_pos (by omega)] | rw [if_neg (by omega)])) rfl dX7_whyNotTamper_29
  · refine x_iconst hx hb dX7_whyNotTamper_8 ?_
    refine lv_goto (tgt := 29) hx hb dX7_whyNotTamper_9 (by decide) ?_
    exact x_iretR hx hb hr hlocks (by unfold wnT; repeat (first | rw [if_pos (by omega)] | rw [if_neg (by omega)])) rfl dX7_whyNotTamper_29
set_option maxHeartbeats 4000000 in
set_option maxRecDepth 100000 in
theorem c_X7_tamper_bad (l : Launch) (D : va_G) (cs : Nat → ClassId) (a : Int → Nat) (σ : Int → Int) (pa : Int → Int) (sl : Int → Int) (sv : Int → Int) (pd : Int → Int) (kn : Int) (ln : Int) (k : Int) (h7 : 0 ≤ σ 7 ∧ σ 7 ≤ 7) (hk : -2147483648 ≤ k ∧ k < 2147483648) (hb0 : 0 ≤ k → k < σ 7 → σ (11 + 13 * k + 7) = 0 ∨ σ (11 + 13 * k + 7) = 1) (hn : wnT σ k < 0) : kR D cs l yX7_tamper wsX7_tamper ({ frames := 3, cells := 0, slots := 0, locals := 64 } : Room) [.ref (a 0), .int (zI k)] (fun H => mAt D cs a σ pa sl sv pd kn ln H) (some (.int (zI (wnT σ k)))) := by
  refine Met.ofW (cc := cX7_tamper) (maxL := 3) (ret := (some .int)) (by decide) rfl ?_
  intro p e s m args below meth c s₁ B hml hv
  obtain ⟨rfl, hK, hM⟩ := hv
  have hx := B.exec
  have hb := B.bytes
  have hr := B.returns
  have hts := atoms_spec (ws := wsX7_tamper) B.pre
  have hown : s.vm.findClass RX7 = some m.cls := findClass_of_methodNamed B.named
  have hlocks := B.notSynchronized
  have S : CallFix p m c cX7_tamper 3 s (([.ref (a 0), .int (zI k)] : List Value)).toArray wsX7_tamper RX7 := ⟨hx, hb, hml, hown, hts⟩
  have hin7 : ∀ w ∈ wsX70, w ∈ wsX7_tamper := by decide +kernel
  have hl := lv_entry ([.ref (a 0), .int (zI k)]) (n := 3) (Nat.le_of_ble_eq_true rfl)
  rw [lg_entry_eq]
  generalize (lg_sl ([.ref (a 0), .int (zI k)]) ++ List.replicate (3 - (lg_sl ([.ref (a 0), .int (zI k)])).length) Slot.unset).toArray = ls at hl ⊢
  have hl : lv_has ls 3 [(0, .ref (a 0)), (1, .int (zI k))] := hl
  have hr0 := wnT_rng σ k
  refine lv_aload_n hx hb dX7_tamper_0 rfl (lv_at hl 0 rfl) ?_
  refine lv_iload_n hx hb dX7_tamper_1 rfl (lv_at hl 1 rfl) ?_
  refine x_callVR (As := [.int (zI k)]) (rest := []) S hK (c_X7_whyNotTamper l D cs a σ pa sl sv pd kn ln k (by omega) (by omega) (by exact hb0)) (cwV 1 hts gX7_tamper_X7_whyNotTamper rfl rfl rfl (by decide +kernel) ⟨(Nat.le_of_ble_eq_true rfl), (Nat.le_of_ble_eq_true rfl)⟩) (x_rc hK (mAt_0 hM) rfl) hM rfl hl.1 (Nat.le_of_ble_eq_true rfl) dX7_tamper_2 ⟨Nat.zero_le _, Nat.zero_le _⟩ ?_
  refine lv_istore_n (lv' := [(2, .int (zI (wnT σ k))), (0, .ref (a 0)), (1, .int (zI k))]) hx hb dX7_tamper_5 rfl hl (by decide) rfl (fun ls hl => ?_)
  refine lv_iload_n hx hb dX7_tamper_6 rfl (lv_at hl 0 rfl) ?_
  refine x_if_ge (tgt := 12) hx hb dX7_tamper_7 (by decide) (by omega) (fun c_7 => ?_) (fun c_7 => ?_)
  · exact absurd hn (by omega)
  · refine lv_iload_n hx hb dX7_tamper_10 rfl (lv_at hl 0 rfl) ?_
    exact x_iretR hx hb hr hlocks (by first | rfl | omega) rfl dX7_tamper_11
set_option maxHeartbeats 4000000 in
set_option maxRecDepth 100000 in
theorem c_X7_tamper_ok (l : Launch) (D : va_G) (cs : Nat → ClassId) (a : Int → Nat) (σ : Int → Int) (pa : Int → Int) (sl : Int → Int) (sv : Int → Int) (pd : Int → Int) (kn : Int) (ln : Int) (k : Int) (h7 : 0 ≤ σ 7 ∧ σ 7 ≤ 7) (hk : -2147483648 ≤ k ∧ k < 2147483648) (hb0 : 0 ≤ k → k < σ 7 → σ (11 + 13 * k + 7) = 0 ∨ σ (11 + 13 * k + 7) = 1) (hn : wnT σ k = 0) (hkn : 0 ≤ kn ∧ kn ≤ 6) (hI : mI a) : kM D cs l yX7_tamper wsX7_tamper ({ frames := 3, cells := 0, slots := 0, locals := 64 } : Room) [.ref (a 0), .int (zI k)] (fun H => mAt D cs a σ pa sl sv pd kn ln H) (some (.int (zI (σ (11 + 13 * k + 6))))) (fun H => mAt D cs a (tpF σ k) (remP σ pa kn) sl sv pd (remK kn) ln H) (mC a) := by
  refine Met.ofW (cc := cX7_tamper) (maxL := 3) (ret := (some .int)) (by decide) rfl ?_
  intro p e s m args below meth c s₁ B hml hv
  obtain ⟨rfl, hK, hM⟩ := hv
  have hx := B.exec
  have hb := B.bytes
  have hr := B.returns
  have hts := atoms_spec (ws := wsX7_tamper) B.pre
  have hown : s.vm.findClass RX7 = some m.cls := findClass_of_methodNamed B.named
  have hlocks := B.notSynchronized
  have S : CallFix p m c cX7_tamper 3 s (([.ref (a 0), .int (zI k)] : List Value)).toArray wsX7_tamper RX7 := ⟨hx, hb, hml, hown, hts⟩
  have hin7 : ∀ w ∈ wsX70, w ∈ wsX7_tamper := by decide +kernel
  have hS : va_S (mC a) s.heap s.heap [] := va_S.rf
  have hl := lv_entry ([.ref (a 0), .int (zI k)]) (n := 3) (Nat.le_of_ble_eq_true rfl)
  rw [lg_entry_eq]
  generalize (lg_sl ([.ref (a 0), .int (zI k)]) ++ List.replicate (3 - (lg_sl ([.ref (a 0), .int (zI k)])).length) Slot.unset).toArray = ls at hl ⊢
  have hl : lv_has ls 3 [(0, .ref (a 0)), (1, .int (zI k))] := hl
  have hr0 := wnT_0 hn
  refine lv_aload_n hx hb dX7_tamper_0 rfl (lv_at hl 0 rfl) ?_
  refine lv_iload_n hx hb dX7_tamper_1 rfl (lv_at hl 1 rfl) ?_
  refine x_callVR (As := [.int (zI k)]) (rest := []) S hK (c_X7_whyNotTamper l D cs a σ pa sl sv pd kn ln k (by omega) (by omega) (by exact hb0)) (cwV 1 hts gX7_tamper_X7_whyNotTamper rfl rfl rfl (by decide +kernel) ⟨(Nat.le_of_ble_eq_true rfl), (Nat.le_of_ble_eq_true rfl)⟩) (x_rc hK (mAt_0 hM) rfl) hM rfl hl.1 (Nat.le_of_ble_eq_true rfl) dX7_tamper_2 ⟨Nat.zero_le _, Nat.zero_le _⟩ ?_
  refine lv_istore_n (lv' := [(2, .int (zI (wnT σ k))), (0, .ref (a 0)), (1, .int (zI k))]) hx hb dX7_tamper_5 rfl hl (by decide) rfl (fun ls hl => ?_)
  refine lv_iload_n hx hb dX7_tamper_6 rfl (lv_at hl 0 rfl) ?_
  refine x_if_ge (tgt := 12) hx hb dX7_tamper_7 (by decide) (by omega) (fun c_7 => ?_) (fun c_7 => ?_)
  · refine lv_aload_n hx hb dX7_tamper_12 rfl (lv_at hl 1 rfl) ?_
    refine x_callVMn (As := []) (rest := []) S hK (c_X7_remembers l D cs a σ pa sl sv pd kn ln (by omega) (by omega)) (cwV 0 hts gX7_tamper_X7_remembers rfl rfl rfl (by decide +kernel) ⟨(Nat.le_of_ble_eq_true rfl), (Nat.le_of_ble_eq_true rfl)⟩) (x_rc hK (mAt_0 hM) rfl) hM rfl hl.1 (Nat.le_of_ble_eq_true rfl) dX7_tamper_13 ⟨Nat.zero_le _, Nat.zero_le _⟩ hS (fun q hq => hq) (fun H locs hB hF hS => ?_)
    have hM : mAt D cs a σ (remP σ pa kn) sl sv pd (remK kn) ln H := hB
    refine lv_aload_n hx hb dX7_tamper_16 rfl (lv_at hl 1 rfl) ?_
    refine m_g_s S hin7 hK hM (hts (.fieldLink RX7 7 "EnergyDiscsModel" "s" "[J") (by decide +kernel)) dX7_tamper_17 ?_
    refine x_iconst hx hb dX7_tamper_20 ?_
    refine lv_iload_n hx hb dX7_tamper_21 rfl (lv_at hl 2 rfl) ?_
    refine x_callSR (As := [.int (zI 0), .int (zI k)]) (rest := [.ref (a 1)]) S hK (c_X7_at l D cs 0 k ) (va_cwS 2 hts gX7_tamper_X7_at rfl rfl rfl (by decide +kernel) ⟨(Nat.le_of_ble_eq_true rfl), (Nat.le_of_ble_eq_true rfl)⟩) trivial rfl hl.1 (Nat.le_of_ble_eq_true rfl) dX7_tamper_22 ⟨Nat.zero_le _, Nat.zero_le _⟩ ?_
    refine x_bipush hx hb dX7_tamper_25 (by decide +kernel) ?_
    refine x_iadd hx hb dX7_tamper_27 ?_
    refine x_lconst (v := 1) hx hb dX7_tamper_28 rfl ?_
    refine m_s_s S hK hM hI hS (by omega) dX7_tamper_29 (fun H locs hM hS => ?_)
    refine lv_aload_n hx hb dX7_tamper_30 rfl (lv_at hl 1 rfl) ?_
    refine lv_iload_n hx hb dX7_tamper_31 rfl (lv_at hl 2 rfl) ?_
    refine x_bipush hx hb dX7_tamper_32 (by decide +kernel) ?_
    refine x_callVR (As := [.int (zI k), .int (zI 6)]) (rest := []) S hK (c_X7_its l D cs a (up σ ((0 + 11 + 13 * k) + 7) 1) (remP σ pa kn) sl sv pd (remK kn) ln k 6 (by omega) (by omega)) (cwV 2 hts gX7_tamper_X7_its rfl rfl rfl (by decide +kernel) ⟨(Nat.le_of_ble_eq_true rfl), (Nat.le_of_ble_eq_true rfl)⟩) (x_rc hK (mAt_0 hM) rfl) hM rfl hl.1 (Nat.le_of_ble_eq_true rfl) dX7_tamper_34 ⟨Nat.zero_le _, Nat.zero_le _⟩ ?_
    exact x_iretM hx hb hr hlocks (by exact up_n (by omega)) (mAt_cong hM (by rfl) rfl rfl rfl rfl rfl rfl) hS dX7_tamper_37
  · exact absurd hn (by omega)
set_option maxHeartbeats 4000000 in
set_option maxRecDepth 100000 in
theorem c_X7_billOf (l : Launch) (D : va_G) (cs : Nat → ClassId) (a : Int → Nat) (σ : Int → Int) (pa : Int → Int) (sl : Int → Int) (sv : Int → Int) (pd : Int → Int) (kn : Int) (ln : Int) (k : Int) (hk : 0 ≤ k ∧ k < 7) : kR D cs l yX7_billOf wsX7_billOf ({ frames := 1, cells := 0, slots := 0, locals := 21 } : Room) [.ref (a 0), .int (zI k)] (fun H => mAt D cs a σ pa sl sv pd kn ln H) (some (.int (zI (billS σ k)))) := by
  refine Met.ofW (cc := cX7_billOf) (maxL := 3) (ret := (some .int)) (by decide) rfl ?_
  intro p e s m args below meth c s₁ B hml hv
  obtain ⟨rfl, hK, hM⟩ := hv
  have hx := B.exec
  have hb := B.bytes
  have hr := B.returns
  have hts := atoms_spec (ws := wsX7_billOf) B.pre
  have hown : s.vm.findClass RX7 = some m.cls := findClass_of_methodNamed B.named
  have hlocks := B.notSynchronized
  have S : CallFix p m c cX7_billOf 3 s (([.ref (a 0), .int (zI k)] : List Value)).toArray wsX7_billOf RX7 := ⟨hx, hb, hml, hown, hts⟩
  have hin7 : ∀ w ∈ wsX70, w ∈ wsX7_billOf := by decide +kernel
  have hl := lv_entry ([.ref (a 0), .int (zI k)]) (n := 3) (Nat.le_of_ble_eq_true rfl)
  rw [lg_entry_eq]
  generalize (lg_sl ([.ref (a 0), .int (zI k)]) ++ List.replicate (3 - (lg_sl ([.ref (a 0), .int (zI k)])).length) Slot.unset).toArray = ls at hl ⊢
  have hl : lv_has ls 3 [(0, .ref (a 0)), (1, .int (zI k))] := hl
  refine x_iconst hx hb dX7_billOf_0 ?_
  refine lv_iload_n hx hb dX7_billOf_1 rfl (lv_at hl 1 rfl) ?_
  refine x_callSR (As := [.int (zI 0), .int (zI k)]) (rest := []) S hK (c_X7_at l D cs 0 k ) (va_cwS 2 hts gX7_billOf_X7_at rfl rfl rfl (by decide +kernel) ⟨(Nat.le_of_ble_eq_true rfl), (Nat.le_of_ble_eq_true rfl)⟩) trivial rfl hl.1 (Nat.le_of_ble_eq_true rfl) dX7_billOf_2 ⟨Nat.zero_le _, Nat.zero_le _⟩ ?_
  refine lv_istore_n (lv' := [(2, .int (zI (0 + 11 + 13 * k))), (0, .ref (a 0)), (1, .int (zI k))]) hx hb dX7_billOf_5 rfl hl (by decide) rfl (fun ls hl => ?_)
  refine lv_aload_n hx hb dX7_billOf_6 rfl (lv_at hl 1 rfl) ?_
  refine m_g_s S hin7 hK hM (hts (.fieldLink RX7 7 "EnergyDiscsModel" "s" "[J") (by decide +kernel)) dX7_billOf_7 ?_
  refine x_iconst hx hb dX7_billOf_10 ?_
  refine m_l_s S hK hM (by omega) dX7_billOf_11 ?_
  refine lv_aload_n hx hb dX7_billOf_12 rfl (lv_at hl 1 rfl) ?_
  refine m_g_s S hin7 hK hM (hts (.fieldLink RX7 7 "EnergyDiscsModel" "s" "[J") (by decide +kernel)) dX7_billOf_13 ?_
  refine lv_iload_n hx hb dX7_billOf_16 rfl (lv_at hl 0 rfl) ?_
  refine x_iconst hx hb dX7_billOf_17 ?_
  refine x_iadd hx hb dX7_billOf_18 ?_
  refine m_l_s S hK hM (by omega) dX7_billOf_19 ?_
  refine lv_aload_n hx hb dX7_billOf_20 rfl (lv_at hl 1 rfl) ?_
  refine m_g_s S hin7 hK hM (hts (.fieldLink RX7 7 "EnergyDiscsModel" "s" "[J") (by decide +kernel)) dX7_billOf_21 ?_
  refine lv_iload_n hx hb dX7_billOf_24 rfl (lv_at hl 0 rfl) ?_
  refine x_bipush hx hb dX7_billOf_25 (by decide +kernel) ?_
  refine x_iadd hx hb dX7_billOf_27 ?_
  refine m_l_s S hK hM (by omega) dX7_billOf_28 ?_
  refine x_lsub hx hb dX7_billOf_29 ?_
  refine x_lmul hx hb dX7_billOf_30 ?_
  refine lv_aload_n hx hb dX7_billOf_31 rfl (lv_at hl 1 rfl) ?_
  refine m_g_s S hin7 hK hM (hts (.fieldLink RX7 7 "EnergyDiscsModel" "s" "[J") (by decide +kernel)) dX7_billOf_32 ?_
  refine x_iconst hx hb dX7_billOf_35 ?_
  refine m_l_s S hK hM (by omega) dX7_billOf_36 ?_
  refine lv_aload_n hx hb dX7_billOf_37 rfl (lv_at hl 1 rfl) ?_
  refine m_g_s S hin7 hK hM (hts (.fieldLink RX7 7 "EnergyDiscsModel" "s" "[J") (by decide +kernel)) dX7_billOf_38 ?_
  refine lv_iload_n hx hb dX7_billOf_41 rfl (lv_at hl 0 rfl) ?_
  refine x_iconst hx hb dX7_billOf_42 ?_
  refine x_iadd hx hb dX7_billOf_43 ?_
  refine m_l_s S hK hM (by omega) dX7_billOf_44 ?_
  refine lv_aload_n hx hb dX7_billOf_45 rfl (lv_at hl 1 rfl) ?_
  refine m_g_s S hin7 hK hM (hts (.fieldLink RX7 7 "EnergyDiscsModel" "s" "[J") (by decide +kernel)) dX7_billOf_46 ?_
  refine lv_iload_n hx hb dX7_billOf_49 rfl (lv_at hl 0 rfl) ?_
  refine x_bipush hx hb dX7_billOf_50 (by decide +kernel) ?_
  refine x_iadd hx hb dX7_billOf_52 ?_
  refine m_l_s S hK hM (by omega) dX7_billOf_53 ?_
  refine x_lsub hx hb dX7_billOf_54 ?_
  refine x_lmul hx hb dX7_billOf_55 ?_
  refine x_ladd hx hb dX7_billOf_56 ?_
  refine x_l2i hx hb dX7_billOf_57 ?_
  exact x_iretR hx hb hr hlocks (by first | rfl | omega) rfl dX7_billOf_58
set_option maxHeartbeats 4000000 in
set_option maxRecDepth 100000 in
theorem c_X7_visits (l : Launch) (D : va_G) (cs : Nat → ClassId) (a : Int → Nat) (σ : Int → Int) (pa : Int → Int) (sl : Int → Int) (sv : Int → Int) (pd : Int → Int) (kn : Int) (ln : Int) (k : Int) (hk : 0 ≤ k ∧ k < 7) (hb0 : -2147483648 ≤ billS σ k ∧ billS σ k < 2147483648) (hb7 : σ (0 + 11 + 13 * k + 7) = 0 ∨ σ (0 + 11 + 13 * k + 7) = 1) (hI : mI a) : kM D cs l yX7_visits wsX7_visits ({ frames := 2, cells := 0, slots := 0, locals := 43 } : Room) [.ref (a 0), .int (zI k)] (fun H => mAt D cs a σ pa sl sv pd kn ln H) (some (.int (zI (billS σ k)))) (fun H => mAt D cs a (vsF σ k) pa sl sv pd kn ln H) (mC a) := by
  refine Met.ofW (cc := cX7_visits) (maxL := 4) (ret := (some .int)) (by decide) rfl ?_
  intro p e s m args below meth c s₁ B hml hv
  obtain ⟨rfl, hK, hM⟩ := hv
  have hx := B.exec
  have hb := B.bytes
  have hr := B.returns
  have hts := atoms_spec (ws := wsX7_visits) B.pre
  have hown : s.vm.findClass RX7 = some m.cls := findClass_of_methodNamed B.named
  have hlocks := B.notSynchronized
  have S : CallFix p m c cX7_visits 4 s (([.ref (a 0), .int (zI k)] : List Value)).toArray wsX7_visits RX7 := ⟨hx, hb, hml, hown, hts⟩
  have hin7 : ∀ w ∈ wsX70, w ∈ wsX7_visits := by decide +kernel
  have hS : va_S (mC a) s.heap s.heap [] := va_S.rf
  have hl := lv_entry ([.ref (a 0), .int (zI k)]) (n := 4) (Nat.le_of_ble_eq_true rfl)
  rw [lg_entry_eq]
  generalize (lg_sl ([.ref (a 0), .int (zI k)]) ++ List.replicate (4 - (lg_sl ([.ref (a 0), .int (zI k)])).length) Slot.unset).toArray = ls at hl ⊢
  have hl : lv_has ls 4 [(0, .ref (a 0)), (1, .int (zI k))] := hl
  refine x_iconst hx hb dX7_visits_0 ?_
  refine lv_iload_n hx hb dX7_visits_1 rfl (lv_at hl 1 rfl) ?_
  refine x_callSR (As := [.int (zI 0), .int (zI k)]) (rest := []) S hK (c_X7_at l D cs 0 k ) (va_cwS 2 hts gX7_visits_X7_at rfl rfl rfl (by decide +kernel) ⟨(Nat.le_of_ble_eq_true rfl), (Nat.le_of_ble_eq_true rfl)⟩) trivial rfl hl.1 (Nat.le_of_ble_eq_true rfl) dX7_visits_2 ⟨Nat.zero_le _, Nat.zero_le _⟩ ?_
  refine lv_istore_n (lv' := [(2, .int (zI (0 + 11 + 13 * k))), (0, .ref (a 0)), (1, .int (zI k))]) hx hb dX7_visits_5 rfl hl (by decide) rfl (fun ls hl => ?_)
  refine lv_aload_n hx hb dX7_visits_6 rfl (lv_at hl 1 rfl) ?_
  refine lv_iload_n hx hb dX7_visits_7 rfl (lv_at hl 2 rfl) ?_
  refine x_callVR (As := [.int (zI k)]) (rest := []) S hK (c_X7_billOf l D cs a σ pa sl sv pd kn ln k (by omega)) (cwV 1 hts gX7_visits_X7_billOf rfl rfl rfl (by decide +kernel) ⟨(Nat.le_of_ble_eq_true rfl), (Nat.le_of_ble_eq_true rfl)⟩) (x_rc hK (mAt_0 hM) rfl) hM rfl hl.1 (Nat.le_of_ble_eq_true rfl) dX7_visits_8 ⟨Nat.zero_le _, Nat.zero_le _⟩ ?_
  refine lv_istore_n (lv' := [(3, .int (zI (billS σ k))), (2, .int (zI (0 + 11 + 13 * k))), (0, .ref (a 0)), (1, .int (zI k))]) hx hb dX7_visits_11 rfl hl (by decide) rfl (fun ls hl => ?_)
  refine lv_aload_n hx hb dX7_visits_12 rfl (lv_at hl 2 rfl) ?_
  refine m_g_s S hin7 hK hM (hts (.fieldLink RX7 7 "EnergyDiscsModel" "s" "[J") (by decide +kernel)) dX7_visits_13 ?_
  refine lv_iload_n hx hb dX7_visits_16 rfl (lv_at hl 1 rfl) ?_
  refine x_bipush hx hb dX7_visits_17 (by decide +kernel) ?_
  refine x_iadd hx hb dX7_visits_19 ?_
  refine lv_aload_n hx hb dX7_visits_20 rfl (lv_at hl 2 rfl) ?_
  refine m_g_s S hin7 hK hM (hts (.fieldLink RX7 7 "EnergyDiscsModel" "s" "[J") (by decide +kernel)) dX7_visits_21 ?_
  refine lv_iload_n hx hb dX7_visits_24 rfl (lv_at hl 1 rfl) ?_
  refine x_iconst hx hb dX7_visits_25 ?_
  refine x_iadd hx hb dX7_visits_26 ?_
  refine m_l_s S hK hM (by omega) dX7_visits_27 ?_
  refine m_s_s S hK hM hI hS (by omega) dX7_visits_28 (fun H locs hM hS => ?_)
  have hM : mAt D cs a (vsA σ k) pa sl sv pd kn ln H := hM
  refine lv_aload_n hx hb dX7_visits_29 rfl (lv_at hl 2 rfl) ?_
  refine m_g_s S hin7 hK hM (hts (.fieldLink RX7 7 "EnergyDiscsModel" "s" "[J") (by decide +kernel)) dX7_visits_30 ?_
  refine lv_iload_n hx hb dX7_visits_33 rfl (lv_at hl 1 rfl) ?_
  refine x_bipush hx hb dX7_visits_34 (by decide +kernel) ?_
  refine x_iadd hx hb dX7_visits_36 ?_
  refine lv_aload_n hx hb dX7_visits_37 rfl (lv_at hl 2 rfl) ?_
  refine m_g_s S hin7 hK hM (hts (.fieldLink RX7 7 "EnergyDiscsModel" "s" "[J") (by decide +kernel)) dX7_visits_38 ?_
  refine lv_iload_n hx hb dX7_visits_41 rfl (lv_at hl 1 rfl) ?_
  refine x_iconst hx hb dX7_visits_42 ?_
  refine x_iadd hx hb dX7_visits_43 ?_
  refine m_l_s S hK hM (by omega) dX7_visits_44 ?_
  refine m_s_s S hK hM hI hS (by omega) dX7_visits_45 (fun H locs hM hS => ?_)
  have hM : mAt D cs a (vsB σ k) pa sl sv pd kn ln H := hM
  refine lv_aload_n hx hb dX7_visits_46 rfl (lv_at hl 2 rfl) ?_
  refine m_g_s S hin7 hK hM (hts (.fieldLink RX7 7 "EnergyDiscsModel" "s" "[J") (by decide +kernel)) dX7_visits_47 ?_
  refine lv_iload_n hx hb dX7_visits_50 rfl (lv_at hl 1 rfl) ?_
  refine x_bipush hx hb dX7_visits_51 (by decide +kernel) ?_
  refine x_iadd hx hb dX7_visits_53 ?_
  refine lv_dup2_11 hx hb dX7_visits_54 rfl rfl ?_
  refine m_l_s S hK hM (by omega) dX7_visits_55 ?_
  refine lv_iload_n hx hb dX7_visits_56 rfl (lv_at hl 0 rfl) ?_
  refine x_i2l hx hb (by omega) dX7_visits_57 ?_
  refine x_ladd hx hb dX7_visits_58 ?_
  refine m_s_s S hK hM hI hS (by omega) dX7_visits_59 (fun H locs hM hS => ?_)
  have hM : mAt D cs a (vsC σ k) pa sl sv pd kn ln H := hM
  refine lv_aload_n hx hb dX7_visits_60 rfl (lv_at hl 2 rfl) ?_
  refine m_g_s S hin7 hK hM (hts (.fieldLink RX7 7 "EnergyDiscsModel" "s" "[J") (by decide +kernel)) dX7_visits_61 ?_
  refine x_bipush hx hb dX7_visits_64 (by decide +kernel) ?_
  refine lv_dup2_11 hx hb dX7_visits_66 rfl rfl ?_
  refine m_l_s S hK hM (by omega) dX7_visits_67 ?_
  refine lv_iload_n hx hb dX7_visits_68 rfl (lv_at hl 0 rfl) ?_
  refine x_i2l hx hb (by omega) dX7_visits_69 ?_
  refine x_ladd hx hb dX7_visits_70 ?_
  refine m_s_s S hK hM hI hS (by omega) dX7_visits_71 (fun H locs hM hS => ?_)
  have hM : mAt D cs a (vsD σ k) pa sl sv pd kn ln H := hM
  refine lv_aload_n hx hb dX7_visits_72 rfl (lv_at hl 2 rfl) ?_
  refine m_g_s S hin7 hK hM (hts (.fieldLink RX7 7 "EnergyDiscsModel" "s" "[J") (by decide +kernel)) dX7_visits_73 ?_
  refine lv_iload_n hx hb dX7_visits_76 rfl (lv_at hl 1 rfl) ?_
  refine x_iconst hx hb dX7_visits_77 ?_
  refine x_iadd hx hb dX7_visits_78 ?_
  refine x_ldc2 (v := 100) hx hb hown (hts (.constantLong RX7 66 (zL 100)) (by decide +kernel)) dX7_visits_79 ?_
  refine m_s_s S hK hM hI hS (by omega) dX7_visits_82 (fun H locs hM hS => ?_)
  refine lv_aload_n hx hb dX7_visits_83 rfl (lv_at hl 2 rfl) ?_
  refine m_g_s S hin7 hK hM (hts (.fieldLink RX7 7 "EnergyDiscsModel" "s" "[J") (by decide +kernel)) dX7_visits_84 ?_
  refine lv_iload_n hx hb dX7_visits_87 rfl (lv_at hl 1 rfl) ?_
  refine x_bipush hx hb dX7_visits_88 (by decide +kernel) ?_
  refine x_iadd hx hb dX7_visits_90 ?_
  refine x_lconst (v := 0) hx hb dX7_visits_91 rfl ?_
  refine m_s_s S hK hM hI hS (by omega) dX7_visits_92 (fun H locs hM hS => ?_)
  have hM : mAt D cs a (vsE σ k) pa sl sv pd kn ln H := hM
  refine lv_aload_n hx hb dX7_visits_93 rfl (lv_at hl 2 rfl) ?_
  refine m_g_s S hin7 hK hM (hts (.fieldLink RX7 7 "EnergyDiscsModel" "s" "[J") (by decide +kernel)) dX7_visits_94 ?_
  refine lv_iload_n hx hb dX7_visits_97 rfl (lv_at hl 1 rfl) ?_
  refine x_bipush hx hb dX7_visits_98 (by decide +kernel) ?_
  refine x_iadd hx hb dX7_visits_100 ?_
  refine lv_dup2_11 hx hb dX7_visits_101 rfl rfl ?_
  refine m_l_s S hK hM (by omega) dX7_visits_102 ?_
  refine x_lconst (v := 1) hx hb dX7_visits_103 rfl ?_
  refine x_ladd hx hb dX7_visits_104 ?_
  refine m_s_s S hK hM hI hS (by omega) dX7_visits_105 (fun H locs hM hS => ?_)
  have hM : mAt D cs a (vsG σ k) pa sl sv pd kn ln H := hM
  have e7 := vsG_7 (σ := σ) (k := k) hk.1
  refine lv_aload_n hx hb dX7_visits_106 rfl (lv_at hl 2 rfl) ?_
  refine m_g_s S hin7 hK hM (hts (.fieldLink RX7 7 "EnergyDiscsModel" "s" "[J") (by decide +kernel)) dX7_visits_107 ?_
  refine lv_iload_n hx hb dX7_visits_110 rfl (lv_at hl 1 rfl) ?_
  refine x_bipush hx hb dX7_visits_111 (by decide +kernel) ?_
  refine x_iadd hx hb dX7_visits_113 ?_
  refine m_l_s S hK hM (by omega) dX7_visits_114 ?_
  refine x_lconst (v := 1) hx hb dX7_visits_115 rfl ?_
  refine x_lcmp_ne (tgt := 157) hx hb dX7_visits_116 dX7_visits_117 (by decide) (by omega) (by omega) (fun c_116 => ?_) (fun c_116 => ?_)
  · refine lv_iload_n hx hb dX7_visits_157 rfl (lv_at hl 0 rfl) ?_
    exact x_iretM hx hb hr hlocks (by first | rfl | omega) (mAt_cong hM (by unfold vsF; first | rw [if_pos (by assumption)] | rw [if_neg (by assumption)]) rfl rfl rfl rfl rfl rfl) hS dX7_visits_158
  · refine lv_aload_n hx hb dX7_visits_120 rfl (lv_at hl 2 rfl) ?_
    refine m_g_s S hin7 hK hM (hts (.fieldLink RX7 7 "EnergyDiscsModel" "s" "[J") (by decide +kernel)) dX7_visits_121 ?_
    refine x_bipush hx hb dX7_visits_124 (by decide +kernel) ?_
    refine lv_dup2_11 hx hb dX7_visits_126 rfl rfl ?_
    refine m_l_s S hK hM (by omega) dX7_visits_127 ?_
    refine x_lconst (v := 1) hx hb dX7_visits_128 rfl ?_
    refine x_ladd hx hb dX7_visits_129 ?_
    refine m_s_s S hK hM hI hS (by omega) dX7_visits_130 (fun H locs hM hS => ?_)
    have hM : mAt D cs a (vsH σ k) pa sl sv pd kn ln H := hM
    refine lv_aload_n hx hb dX7_visits_131 rfl (lv_at hl 2 rfl) ?_
    refine m_g_s S hin7 hK hM (hts (.fieldLink RX7 7 "EnergyDiscsModel" "s" "[J") (by decide +kernel)) dX7_visits_132 ?_
    refine lv_iload_n hx hb dX7_visits_135 rfl (lv_at hl 1 rfl) ?_
    refine x_bipush hx hb dX7_visits_136 (by decide +kernel) ?_
    refine x_iadd hx hb dX7_visits_138 ?_
    refine lv_aload_n hx hb dX7_visits_139 rfl (lv_at hl 2 rfl) ?_
    refine m_g_s S hin7 hK hM (hts (.fieldLink RX7 7 "EnergyDiscsModel" "s" "[J") (by decide +kernel)) dX7_visits_140 ?_
    refine x_bipush hx hb dX7_visits_143 (by decide +kernel) ?_
    refine m_l_s S hK hM (by omega) dX7_visits_145 ?_
    refine m_s_s S hK hM hI hS (by omega) dX7_visits_146 (fun H locs hM hS => ?_)
    refine lv_aload_n hx hb dX7_visits_147 rfl (lv_at hl 2 rfl) ?_
    refine m_g_s S hin7 hK hM (hts (.fieldLink RX7 7 "EnergyDiscsModel" "s" "[J") (by decide +kernel)) dX7_visits_148 ?_
    refine lv_iload_n hx hb dX7_visits_151 rfl (lv_at hl 1 rfl) ?_
    refine x_bipush hx hb dX7_visits_152 (by decide +kernel) ?_
    refine x_iadd hx hb dX7_visits_154 ?_
    refine x_lconst (v := 0) hx hb dX7_visits_155 rfl ?_
    refine m_s_s S hK hM hI hS (by omega) dX7_visits_156 (fun H locs hM hS => ?_)
    refine lv_iload_n hx hb dX7_visits_157 rfl (lv_at hl 0 rfl) ?_
    exact x_iretM hx hb hr hlocks (by first | rfl | omega) (mAt_cong hM (by unfold vsF; first | rw [if_pos (by assumption)] | rw [if_neg (by assumption)]) rfl rfl rfl rfl rfl rfl) hS dX7_visits_158
set_option maxHeartbeats 4000000 in
set_option maxRecDepth 100000 in
theorem c_X7_visit_bad (l : Launch) (D : va_G) (cs : Nat → ClassId) (a : Int → Nat) (σ : Int → Int) (pa : Int → Int) (sl : Int → Int) (sv : Int → Int) (pd : Int → Int) (kn : Int) (ln : Int) (k : Int) (h7 : 0 ≤ σ 7 ∧ σ 7 ≤ 7) (hk : -2147483648 ≤ k ∧ k < 2147483648) (hn : ¬ (0 ≤ k ∧ k < σ 7)) : kR D cs l yX7_visit wsX7_visit ({ frames := 3, cells := 0, slots := 0, locals := 66 } : Room) [.ref (a 0), .int (zI k)] (fun H => mAt D cs a σ pa sl sv pd kn ln H) (some (.int (zI (-1)))) := by
  refine Met.ofW (cc := cX7_visit) (maxL := 2) (ret := (some .int)) (by decide) rfl ?_
  intro p e s m args below meth c s₁ B hml hv
  obtain ⟨rfl, hK, hM⟩ := hv
  have hx := B.exec
  have hb := B.bytes
  have hr := B.returns
  have hts := atoms_spec (ws := wsX7_visit) B.pre
  have hown : s.vm.findClass RX7 = some m.cls := findClass_of_methodNamed B.named
  have hlocks := B.notSynchronized
  have S : CallFix p m c cX7_visit 2 s (([.ref (a 0), .int (zI k)] : List Value)).toArray wsX7_visit RX7 := ⟨hx, hb, hml, hown, hts⟩
  have hl := lv_entry ([.ref (a 0), .int (zI k)]) (n := 2) (Nat.le_of_ble_eq_true rfl)
  rw [lg_entry_eq]
  generalize (lg_sl ([.ref (a 0), .int (zI k)]) ++ List.replicate (2 - (lg_sl ([.ref (a 0), .int (zI k)])).length) Slot.unset).toArray = ls at hl ⊢
  have hl : lv_has ls 2 [(0, .ref (a 0)), (1, .int (zI k))] := hl
  refine lv_aload_n hx hb dX7_visit_0 rfl (lv_at hl 0 rfl) ?_
  refine lv_iload_n hx hb dX7_visit_1 rfl (lv_at hl 1 rfl) ?_
  refine x_callVR (As := [.int (zI k)]) (rest := []) S hK (c_X7_isMeter l D cs a σ pa sl sv pd kn ln k (by omega) (by omega)) (cwV 1 hts gX7_visit_X7_isMeter rfl rfl rfl (by decide +kernel) ⟨(Nat.le_of_ble_eq_true rfl), (Nat.le_of_ble_eq_true rfl)⟩) (x_rc hK (mAt_0 hM) rfl) hM rfl hl.1 (Nat.le_of_ble_eq_true rfl) dX7_visit_2 ⟨Nat.zero_le _, Nat.zero_le _⟩ ?_
  refine x_ifb_ne (tgt := 10) hx hb dX7_visit_5 (by decide)  (fun c_5 => ?_) (fun c_5 => ?_)
  · exact absurd c_5 hn
  · refine x_iconst hx hb dX7_visit_8 ?_
    exact x_iretR hx hb hr hlocks (by first | rfl | omega) rfl dX7_visit_9
set_option maxHeartbeats 4000000 in
set_option maxRecDepth 100000 in
theorem c_X7_visit_ok (l : Launch) (D : va_G) (cs : Nat → ClassId) (a : Int → Nat) (σ : Int → Int) (pa : Int → Int) (sl : Int → Int) (sv : Int → Int) (pd : Int → Int) (kn : Int) (ln : Int) (k : Int) (h7 : 0 ≤ σ 7 ∧ σ 7 ≤ 7) (hk : 0 ≤ k ∧ k < σ 7) (hb0 : -2147483648 ≤ billS σ k ∧ billS σ k < 2147483648) (hb7 : σ (0 + 11 + 13 * k + 7) = 0 ∨ σ (0 + 11 + 13 * k + 7) = 1) (hkn : 0 ≤ kn ∧ kn ≤ 6) (hI : mI a) : kM D cs l yX7_visit wsX7_visit ({ frames := 3, cells := 0, slots := 0, locals := 66 } : Room) [.ref (a 0), .int (zI k)] (fun H => mAt D cs a σ pa sl sv pd kn ln H) (some (.int (zI (billS σ k)))) (fun H => mAt D cs a (vsF σ k) (remP σ pa kn) sl sv pd (remK kn) ln H) (mC a) := by
  refine Met.ofW (cc := cX7_visit) (maxL := 2) (ret := (some .int)) (by decide) rfl ?_
  intro p e s m args below meth c s₁ B hml hv
  obtain ⟨rfl, hK, hM⟩ := hv
  have hx := B.exec
  have hb := B.bytes
  have hr := B.returns
  have hts := atoms_spec (ws := wsX7_visit) B.pre
  have hown : s.vm.findClass RX7 = some m.cls := findClass_of_methodNamed B.named
  have hlocks := B.notSynchronized
  have S : CallFix p m c cX7_visit 2 s (([.ref (a 0), .int (zI k)] : List Value)).toArray wsX7_visit RX7 := ⟨hx, hb, hml, hown, hts⟩
  have hS : va_S (mC a) s.heap s.heap [] := va_S.rf
  have hl := lv_entry ([.ref (a 0), .int (zI k)]) (n := 2) (Nat.le_of_ble_eq_true rfl)
  rw [lg_entry_eq]
  generalize (lg_sl ([.ref (a 0), .int (zI k)]) ++ List.replicate (2 - (lg_sl ([.ref (a 0), .int (zI k)])).length) Slot.unset).toArray = ls at hl ⊢
  have hl : lv_has ls 2 [(0, .ref (a 0)), (1, .int (zI k))] := hl
  refine lv_aload_n hx hb dX7_visit_0 rfl (lv_at hl 0 rfl) ?_
  refine lv_iload_n hx hb dX7_visit_1 rfl (lv_at hl 1 rfl) ?_
  refine x_callVR (As := [.int (zI k)]) (rest := []) S hK (c_X7_isMeter l D cs a σ pa sl sv pd kn ln k (by omega) (by omega)) (cwV 1 hts gX7_visit_X7_isMeter rfl rfl rfl (by decide +kernel) ⟨(Nat.le_of_ble_eq_true rfl), (Nat.le_of_ble_eq_true rfl)⟩) (x_rc hK (mAt_0 hM) rfl) hM rfl hl.1 (Nat.le_of_ble_eq_true rfl) dX7_visit_2 ⟨Nat.zero_le _, Nat.zero_le _⟩ ?_
  refine x_ifb_ne (tgt := 10) hx hb dX7_visit_5 (by decide)  (fun c_5 => ?_) (fun c_5 => ?_)
  · refine lv_aload_n hx hb dX7_visit_10 rfl (lv_at hl 0 rfl) ?_
    refine x_callVMn (As := []) (rest := []) S hK (c_X7_remembers l D cs a σ pa sl sv pd kn ln (by omega) (by omega)) (cwV 0 hts gX7_visit_X7_remembers rfl rfl rfl (by decide +kernel) ⟨(Nat.le_of_ble_eq_true rfl), (Nat.le_of_ble_eq_true rfl)⟩) (x_rc hK (mAt_0 hM) rfl) hM rfl hl.1 (Nat.le_of_ble_eq_true rfl) dX7_visit_11 ⟨Nat.zero_le _, Nat.zero_le _⟩ hS (fun q hq => hq) (fun H locs hB hF hS => ?_)
    have hM : mAt D cs a σ (remP σ pa kn) sl sv pd (remK kn) ln H := hB
    refine lv_aload_n hx hb dX7_visit_14 rfl (lv_at hl 0 rfl) ?_
    refine lv_iload_n hx hb dX7_visit_15 rfl (lv_at hl 1 rfl) ?_
    refine x_callVM (As := [.int (zI k)]) (rest := []) S hK (c_X7_visits l D cs a σ (remP σ pa kn) sl sv pd (remK kn) ln k (by omega) (by omega) (by omega) (by omega)) (cwV 1 hts gX7_visit_X7_visits rfl rfl rfl (by decide +kernel) ⟨(Nat.le_of_ble_eq_true rfl), (Nat.le_of_ble_eq_true rfl)⟩) (x_rc hK (mAt_0 hM) rfl) hM rfl hl.1 (Nat.le_of_ble_eq_true rfl) dX7_visit_16 ⟨Nat.zero_le _, Nat.zero_le _⟩ hS (fun q hq => hq) (fun H locs hB hF hS => ?_)
    have hM : mAt D cs a (vsF σ k) (remP σ pa kn) sl sv pd (remK kn) ln H := hB
    exact x_iretM hx hb hr hlocks (by first | rfl | omega) hM hS dX7_visit_19
  · exact absurd hk c_5
set_option maxHeartbeats 4000000 in
set_option maxRecDepth 100000 in
theorem c_X7_whyNotPass (l : Launch) (D : va_G) (cs : Nat → ClassId) (a : Int → Nat) (σ : Int → Int) (pa : Int → Int) (sl : Int → Int) (sv : Int → Int) (pd : Int → Int) (kn : Int) (ln : Int) (w : Int) (hw : -2147483648 ≤ w ∧ w < 2147483648) (h6 : 0 ≤ σ 6 ∧ σ 6 < 1000000) : kR D cs l yX7_whyNotPass wsX7_whyNotPass ({ frames := 1, cells := 0, slots := 0, locals := 22 } : Room) [.ref (a 0), .int (zI w)] (fun H => mAt D cs a σ pa sl sv pd kn ln H) (some (.int (zI (wnP σ w)))) := by
  refine Met.ofW (cc := cX7_whyNotPass) (maxL := 2) (ret := (some .int)) (by decide) rfl ?_
  intro p e s m args below meth c s₁ B hml hv
  obtain ⟨rfl, hK, hM⟩ := hv
  have hx := B.exec
  have hb := B.bytes
  have hr := B.returns
  have hts := atoms_spec (ws := wsX7_whyNotPass) B.pre
  have hown : s.vm.findClass RX7 = some m.cls := findClass_of_methodNamed B.named
  have hlocks := B.notSynchronized
  have S : CallFix p m c cX7_whyNotPass 2 s (([.ref (a 0), .int (zI w)] : List Value)).toArray wsX7_whyNotPass RX7 := ⟨hx, hb, hml, hown, hts⟩
  have hl := lv_entry ([.ref (a 0), .int (zI w)]) (n := 2) (Nat.le_of_ble_eq_true rfl)
  rw [lg_entry_eq]
  generalize (lg_sl ([.ref (a 0), .int (zI w)]) ++ List.replicate (2 - (lg_sl ([.ref (a 0), .int (zI w)])).length) Slot.unset).toArray = ls at hl ⊢
  have hl : lv_has ls 2 [(0, .ref (a 0)), (1, .int (zI w))] := hl
  refine lv_iload_n hx hb dX7_whyNotPass_0 rfl (lv_at hl 1 rfl) ?_
  refine x_iconst hx hb dX7_whyNotPass_1 ?_
  refine x_sipush hx hb dX7_whyNotPass_2 (by decide +kernel) ?_
  refine x_callSR (As := [.int (zI w), .int (zI 1), .int (zI 1440)]) (rest := []) S hK (c_X7_in l D cs w 1 1440 (by omega) (by omega) (by omega)) (va_cwS 3 hts gX7_whyNotPass_X7_in rfl rfl rfl (by decide +kernel) ⟨(Nat.le_of_ble_eq_true rfl), (Nat.le_of_ble_eq_true rfl)⟩) trivial rfl hl.1 (Nat.le_of_ble_eq_true rfl) dX7_whyNotPass_5 ⟨Nat.zero_le _, Nat.zero_le _⟩ ?_
  refine x_ifb_ne (tgt := 16) hx hb dX7_whyNotPass_8 (by decide)  (fun c_8 => ?_) (fun c_8 => ?_)
  · refine lv_aload_n hx hb dX7_whyNotPass_16 rfl (lv_at hl 0 rfl) ?_
    refine x_bipush hx hb dX7_whyNotPass_17 (by decide +kernel) ?_
    refine x_callVR (As := [.int (zI 6)]) (rest := []) S hK (c_X7_num l D cs a σ pa sl sv pd kn ln 6 (by omega)) (cwV 1 hts gX7_whyNotPass_X7_num rfl rfl rfl (by decide +kernel) ⟨(Nat.le_of_ble_eq_true rfl), (Nat.le_of_ble_eq_true rfl)⟩) (x_rc hK (mAt_0 hM) rfl) hM rfl hl.1 (Nat.le_of_ble_eq_true rfl) dX7_whyNotPass_19 ⟨Nat.zero_le _, Nat.zero_le _⟩ ?_
    refine lv_iload_n hx hb dX7_whyNotPass_22 rfl (lv_at hl 1 rfl) ?_
    refine x_iadd hx hb dX7_whyNotPass_23 ?_
    refine x_ldc (v := 99999) hx hb hown (hts (.constant RX7 128 (zI 99999)) (by decide +kernel)) dX7_whyNotPass_24 ?_
    refine x_icmp_le (tgt := 34) hx hb dX7_whyNotPass_26 (by decide) (by omega) (by omega) (fun c_26 => ?_) (fun c_26 => ?_)
    · refine x_iconst hx hb dX7_whyNotPass_34 ?_
      exact x_iretR hx hb hr hlocks (by unfold wnP; repeat (first | rw [if_pos (by omega)] | rw [if_neg (by omega)])) rfl dX7_whyNotPass_35
    · refine x_bipush hx hb dX7_whyNotPass_29 (by decide +kernel) ?_
      refine lv_goto (tgt := 35) hx hb dX7_whyNotPass_31 (by decide) ?_
      exact x_iretR hx hb hr hlocks (by unfold wnP; repeat (first | rw [if_pos (by omega)] | rw [if_neg (by omega)])) rfl dX7_whyNotPass_35
  · refine x_bipush hx hb dX7_whyNotPass_11 (by decide +kernel) ?_
    refine lv_goto (tgt := 35) hx hb dX7_whyNotPass_13 (by decide) ?_
    exact x_iretR hx hb hr hlocks (by unfold wnP; repeat (first | rw [if_pos (by omega)] | rw [if_neg (by omega)])) rfl dX7_whyNotPass_35
set_option maxHeartbeats 4000000 in
set_option maxRecDepth 100000 in
theorem c_X7_pass_bad (l : Launch) (D : va_G) (cs : Nat → ClassId) (a : Int → Nat) (σ : Int → Int) (pa : Int → Int) (sl : Int → Int) (sv : Int → Int) (pd : Int → Int) (kn : Int) (ln : Int) (w : Int) (hw : -2147483648 ≤ w ∧ w < 2147483648) (h6 : 0 ≤ σ 6 ∧ σ 6 < 1000000) (hn : wnP σ w < 0) : kR D cs l yX7_pass wsX7_pass ({ frames := 6, cells := 0, slots := 0, locals := 143 } : Room) [.ref (a 0), .int (zI w)] (fun H => mAt D cs a σ pa sl sv pd kn ln H) (some (.int (zI (wnP σ w)))) := by
  refine Met.ofW (cc := cX7_pass) (maxL := 3) (ret := (some .int)) (by decide) rfl ?_
  intro p e s m args below meth c s₁ B hml hv
  obtain ⟨rfl, hK, hM⟩ := hv
  have hx := B.exec
  have hb := B.bytes
  have hr := B.returns
  have hts := atoms_spec (ws := wsX7_pass) B.pre
  have hown : s.vm.findClass RX7 = some m.cls := findClass_of_methodNamed B.named
  have hlocks := B.notSynchronized
  have S : CallFix p m c cX7_pass 3 s (([.ref (a 0), .int (zI w)] : List Value)).toArray wsX7_pass RX7 := ⟨hx, hb, hml, hown, hts⟩
  have hl := lv_entry ([.ref (a 0), .int (zI w)]) (n := 3) (Nat.le_of_ble_eq_true rfl)
  rw [lg_entry_eq]
  generalize (lg_sl ([.ref (a 0), .int (zI w)]) ++ List.replicate (3 - (lg_sl ([.ref (a 0), .int (zI w)])).length) Slot.unset).toArray = ls at hl ⊢
  have hl : lv_has ls 3 [(0, .ref (a 0)), (1, .int (zI w))] := hl
  have hr0 := wnP_rng σ w
  refine lv_aload_n hx hb dX7_pass_0 rfl (lv_at hl 0 rfl) ?_
  refine lv_iload_n hx hb dX7_pass_1 rfl (lv_at hl 1 rfl) ?_
  refine x_callVR (As := [.int (zI w)]) (rest := []) S hK (c_X7_whyNotPass l D cs a σ pa sl sv pd kn ln w (by omega) (by omega)) (cwV 1 hts gX7_pass_X7_whyNotPass rfl rfl rfl (by decide +kernel) ⟨(Nat.le_of_ble_eq_true rfl), (Nat.le_of_ble_eq_true rfl)⟩) (x_rc hK (mAt_0 hM) rfl) hM rfl hl.1 (Nat.le_of_ble_eq_true rfl) dX7_pass_2 ⟨Nat.zero_le _, Nat.zero_le _⟩ ?_
  refine lv_istore_n (lv' := [(2, .int (zI (wnP σ w))), (0, .ref (a 0)), (1, .int (zI w))]) hx hb dX7_pass_5 rfl hl (by decide) rfl (fun ls hl => ?_)
  refine lv_iload_n hx hb dX7_pass_6 rfl (lv_at hl 0 rfl) ?_
  refine x_if_ge (tgt := 12) hx hb dX7_pass_7 (by decide) (by omega) (fun c_7 => ?_) (fun c_7 => ?_)
  · exact absurd hn (by omega)
  · refine lv_iload_n hx hb dX7_pass_10 rfl (lv_at hl 0 rfl) ?_
    exact x_iretR hx hb hr hlocks (by first | rfl | omega) rfl dX7_pass_11
set_option maxHeartbeats 4000000 in
set_option maxRecDepth 100000 in
theorem c_X7_pass_ok (l : Launch) (D : va_G) (cs : Nat → ClassId) (a : Int → Nat) (σ : Int → Int) (pa : Int → Int) (sl : Int → Int) (sv : Int → Int) (pd : Int → Int) (kn : Int) (ln : Int) (w : Int) (hw : -2147483648 ≤ w ∧ w < 2147483648) (hG : gOK σ 0) (hn : wnP σ w = 0) (hkn : 0 ≤ kn ∧ kn ≤ 6) (hI : mI a) : kM D cs l yX7_pass wsX7_pass ({ frames := 6, cells := 0, slots := 0, locals := 143 } : Room) [.ref (a 0), .int (zI w)] (fun H => mAt D cs a σ pa sl sv pd kn ln H) (some (.int (zI (tMins σ 0 w.toNat)))) (fun H => mAt D cs a (pMins σ 0 w.toNat) (remP σ pa kn) sl sv pd (remK kn) ln H) (mC a) := by
  refine Met.ofW (cc := cX7_pass) (maxL := 3) (ret := (some .int)) (by decide) rfl ?_
  intro p e s m args below meth c s₁ B hml hv
  obtain ⟨rfl, hK, hM⟩ := hv
  have hx := B.exec
  have hb := B.bytes
  have hr := B.returns
  have hts := atoms_spec (ws := wsX7_pass) B.pre
  have hown : s.vm.findClass RX7 = some m.cls := findClass_of_methodNamed B.named
  have hlocks := B.notSynchronized
  have S : CallFix p m c cX7_pass 3 s (([.ref (a 0), .int (zI w)] : List Value)).toArray wsX7_pass RX7 := ⟨hx, hb, hml, hown, hts⟩
  have hS : va_S (mC a) s.heap s.heap [] := va_S.rf
  have hl := lv_entry ([.ref (a 0), .int (zI w)]) (n := 3) (Nat.le_of_ble_eq_true rfl)
  rw [lg_entry_eq]
  generalize (lg_sl ([.ref (a 0), .int (zI w)]) ++ List.replicate (3 - (lg_sl ([.ref (a 0), .int (zI w)])).length) Slot.unset).toArray = ls at hl ⊢
  have hl : lv_has ls 3 [(0, .ref (a 0)), (1, .int (zI w))] := hl
  have hr0 := wnP_0 hn
  have h6 : 0 ≤ σ 6 ∧ σ 6 < 1000000 := hG.2.1.2.2.2.2
  refine lv_aload_n hx hb dX7_pass_0 rfl (lv_at hl 0 rfl) ?_
  refine lv_iload_n hx hb dX7_pass_1 rfl (lv_at hl 1 rfl) ?_
  refine x_callVR (As := [.int (zI w)]) (rest := []) S hK (c_X7_whyNotPass l D cs a σ pa sl sv pd kn ln w (by omega) (by omega)) (cwV 1 hts gX7_pass_X7_whyNotPass rfl rfl rfl (by decide +kernel) ⟨(Nat.le_of_ble_eq_true rfl), (Nat.le_of_ble_eq_true rfl)⟩) (x_rc hK (mAt_0 hM) rfl) hM rfl hl.1 (Nat.le_of_ble_eq_true rfl) dX7_pass_2 ⟨Nat.zero_le _, Nat.zero_le _⟩ ?_
  refine lv_istore_n (lv' := [(2, .int (zI (wnP σ w))), (0, .ref (a 0)), (1, .int (zI w))]) hx hb dX7_pass_5 rfl hl (by decide) rfl (fun ls hl => ?_)
  refine lv_iload_n hx hb dX7_pass_6 rfl (lv_at hl 0 rfl) ?_
  refine x_if_ge (tgt := 12) hx hb dX7_pass_7 (by decide) (by omega) (fun c_7 => ?_) (fun c_7 => ?_)
  · refine lv_aload_n hx hb dX7_pass_12 rfl (lv_at hl 1 rfl) ?_
    refine x_callVMn (As := []) (rest := []) S hK (c_X7_remembers l D cs a σ pa sl sv pd kn ln (by omega) (by omega)) (cwV 0 hts gX7_pass_X7_remembers rfl rfl rfl (by decide +kernel) ⟨(Nat.le_of_ble_eq_true rfl), (Nat.le_of_ble_eq_true rfl)⟩) (x_rc hK (mAt_0 hM) rfl) hM rfl hl.1 (Nat.le_of_ble_eq_true rfl) dX7_pass_13 ⟨Nat.zero_le _, Nat.zero_le _⟩ hS (fun q hq => hq) (fun H locs hB hF hS => ?_)
    have hM : mAt D cs a σ (remP σ pa kn) sl sv pd (remK kn) ln H := hB
    refine lv_aload_n hx hb dX7_pass_16 rfl (lv_at hl 1 rfl) ?_
    refine x_iconst hx hb dX7_pass_17 ?_
    refine lv_iload_n hx hb dX7_pass_18 rfl (lv_at hl 2 rfl) ?_
    refine x_callVM (As := [.int (zI 0), .int (zI w)]) (rest := []) S hK (c_X7_passes l D cs a σ (remP σ pa kn) sl sv pd (remK kn) ln 0 w (by omega) (by exact hG) (by omega) (by show σ 6 + w < 1000000; omega) (by omega)) (cwV 2 hts gX7_pass_X7_passes rfl rfl rfl (by decide +kernel) ⟨(Nat.le_of_ble_eq_true rfl), (Nat.le_of_ble_eq_true rfl)⟩) (x_rc hK (mAt_0 hM) rfl) hM rfl hl.1 (Nat.le_of_ble_eq_true rfl) dX7_pass_19 ⟨Nat.zero_le _, Nat.zero_le _⟩ hS (fun q hq => hq) (fun H locs hB hF hS => ?_)
    have hM : mAt D cs a (pMins σ 0 w.toNat) (remP σ pa kn) sl sv pd (remK kn) ln H := hB
    exact x_iretM hx hb hr hlocks (by first | rfl | omega) hM hS dX7_pass_22
  · exact absurd hn (by omega)
set_option maxHeartbeats 4000000 in
set_option maxRecDepth 100000 in
theorem c_X7_types (l : Launch) (D : va_G) (cs : Nat → ClassId) (a : Int → Nat) (σ : Int → Int) (pa : Int → Int) (sl : Int → Int) (sv : Int → Int) (pd : Int → Int) (kn : Int) (ln : Int) (w : Int) (hl0 : 0 ≤ ln ∧ ln < 80) (hI : mI a) : kM D cs l yX7_types wsX7_types ({ frames := 0, cells := 0, slots := 0, locals := 0 } : Room) [.ref (a 0), .int (zI w)] (fun H => mAt D cs a σ pa sl sv pd kn ln H) none (fun H => mAt D cs a σ pa sl sv (up pd ln w) kn (ln + 1) H) (mC a) := by
  refine Met.ofW (cc := cX7_types) (maxL := 2) (ret := none) (by decide) rfl ?_
  intro p e s m args below meth c s₁ B hml hv
  obtain ⟨rfl, hK, hM⟩ := hv
  have hx := B.exec
  have hb := B.bytes
  have hr := B.returns
  have hts := atoms_spec (ws := wsX7_types) B.pre
  have hown : s.vm.findClass RX7 = some m.cls := findClass_of_methodNamed B.named
  have hlocks := B.notSynchronized
  have S : CallFix p m c cX7_types 2 s (([.ref (a 0), .int (zI w)] : List Value)).toArray wsX7_types RX7 := ⟨hx, hb, hml, hown, hts⟩
  have hin7 : ∀ w ∈ wsX70, w ∈ wsX7_types := by decide +kernel
  have hS : va_S (mC a) s.heap s.heap [] := va_S.rf
  have hl := lv_entry ([.ref (a 0), .int (zI w)]) (n := 2) (Nat.le_of_ble_eq_true rfl)
  rw [lg_entry_eq]
  generalize (lg_sl ([.ref (a 0), .int (zI w)]) ++ List.replicate (2 - (lg_sl ([.ref (a 0), .int (zI w)])).length) Slot.unset).toArray = ls at hl ⊢
  have hl : lv_has ls 2 [(0, .ref (a 0)), (1, .int (zI w))] := hl
  refine lv_aload_n hx hb dX7_types_0 rfl (lv_at hl 0 rfl) ?_
  refine m_g_pad S hin7 hK hM (hts (.fieldLink RX7 23 "EnergyDiscsModel" "pad" "[I") (by decide +kernel)) dX7_types_1 ?_
  refine lv_aload_n hx hb dX7_types_4 rfl (lv_at hl 0 rfl) ?_
  refine m_g_length S hin7 hK hM (hts (.fieldLink RX7 135 "EnergyDiscsModel" "length" "I") (by decide +kernel)) dX7_types_5 ?_
  refine lv_iload_n hx hb dX7_types_8 rfl (lv_at hl 1 rfl) ?_
  refine m_s_pad S hK hM hI hS (by omega) dX7_types_9 (fun H locs hM hS => ?_)
  refine lv_aload_n hx hb dX7_types_10 rfl (lv_at hl 0 rfl) ?_
  refine lv_dup hx hb dX7_types_11 rfl ?_
  refine m_g_length S hin7 hK hM (hts (.fieldLink RX7 135 "EnergyDiscsModel" "length" "I") (by decide +kernel)) dX7_types_12 ?_
  refine x_iconst hx hb dX7_types_15 ?_
  refine x_iadd hx hb dX7_types_16 ?_
  refine m_p_length S hin7 hK hM hI hS (hts (.fieldLink RX7 135 "EnergyDiscsModel" "length" "I") (by decide +kernel)) dX7_types_17 (fun H locs hM hS => ?_)
  exact x_vretM hx hb hr hlocks hM hS dX7_types_20
set_option maxHeartbeats 4000000 in
set_option maxRecDepth 100000 in
theorem c_X7_typesNumber (l : Launch) (D : va_G) (cs : Nat → ClassId) (a : Int → Nat) (σ : Int → Int) (pa : Int → Int) (sl : Int → Int) (sv : Int → Int) (pd : Int → Int) (kn : Int) (ln : Int) (v : Int) (hl0 : 0 ≤ ln ∧ ln ≤ 70) (hv : 0 ≤ v ∧ v < 2147483648) (hI : mI a) : kM D cs l yX7_typesNumber wsX7_typesNumber ({ frames := 1, cells := 0, slots := 0, locals := 21 } : Room) [.ref (a 0), .int (zI v)] (fun H => mAt D cs a σ pa sl sv pd kn ln H) none (fun H => mAt D cs a σ pa sl sv (numW pd ln v) kn (ln + (ndg v : Int)) H) (mC a) := by
  refine Met.ofW (cc := cX7_typesNumber) (maxL := 3) (ret := none) (by decide) rfl ?_
  intro p e s m args below meth c s₁ B hml hv
  obtain ⟨rfl, hK, hM⟩ := hv
  have hx := B.exec
  have hb := B.bytes
  have hr := B.returns
  have hts := atoms_spec (ws := wsX7_typesNumber) B.pre
  have hown : s.vm.findClass RX7 = some m.cls := findClass_of_methodNamed B.named
  have hlocks := B.notSynchronized
  have S : CallFix p m c cX7_typesNumber 3 s (([.ref (a 0), .int (zI v)] : List Value)).toArray wsX7_typesNumber RX7 := ⟨hx, hb, hml, hown, hts⟩
  have hS : va_S (mC a) s.heap s.heap [] := va_S.rf
  have hl := lv_entry ([.ref (a 0), .int (zI v)]) (n := 3) (Nat.le_of_ble_eq_true rfl)
  rw [lg_entry_eq]
  generalize (lg_sl ([.ref (a 0), .int (zI v)]) ++ List.replicate (3 - (lg_sl ([.ref (a 0), .int (zI v)])).length) Slot.unset).toArray = ls at hl ⊢
  have hl : lv_has ls 3 [(0, .ref (a 0)), (1, .int (zI v))] := hl
  have hnd := ndg_le v
  refine x_iconst hx hb dX7_typesNumber_0 ?_
  refine lv_istore_n (lv' := [(2, .int (zI 1)), (0, .ref (a 0)), (1, .int (zI v))]) hx hb dX7_typesNumber_1 rfl hl (by decide) rfl (fun ls hl => ?_)
  have lp2 : ∀ (n : Nat) (b : Int) (m0 : Nat), 9 - m0 < n → m0 ≤ 9 → b = 10 ^ m0 → 1 ≤ b ∧ b ≤ 1000000000 → ndg v = m0 + dgs (9 - m0) (v / b) → ∀ (H : Heap) (locs : List Loc), mAt D cs a σ pa sl sv pd kn ln H → va_S (mC a) s.heap H locs → ∀ (ls : Array Slot), lv_has ls 3 [(2, .int (zI b)), (0, .ref (a 0)), (1, .int (zI v))] → W p l e (headSpec wsX7_typesNumber ({ frames := 1, cells := 0, slots := 0, locals := 21 } : Room)).room s m ([.ref (a 0), .int (zI v)] : List Value).toArray below meth c H locs 0 0 (MQ below (kQ none (fun H => mAt D cs a σ pa sl sv (numW pd ln v) kn (ln + (ndg v : Int)) H) (mC a)) ([.ref (a 0), .int (zI v)] : List Value).toArray s 0 0 (mC a)) (F0 m 2 ls []) := by
    intro n
    induction n with
    | zero => intro b m0 hms; exact absurd hms (Nat.not_lt_zero _)
    | succ n ih =>
      intro b m0 hms hm hb1 hb2 hd H locs hM hS ls hl
      have hq0 : 0 ≤ v / b := Int.ediv_nonneg hv.1 (by omega)
      have hq1 : v / b ≤ v := Int.ediv_le_self _ hv.1
      have hq9 : m0 = 9 → v / b ≤ 9 := fun h => by subst h; rw [hb1]; show v / 1000000000 ≤ 9; omega
      have ih2 := ih
      clear ih
      refine lv_iload_n hx hb dX7_typesNumber_2 rfl (lv_at hl 2 rfl) ?_
      refine lv_iload_n hx hb dX7_typesNumber_3 rfl (lv_at hl 0 rfl) ?_
      refine x_idiv hx hb (by omega) (by omega) dX7_typesNumber_4 ?_
      refine x_bipush hx hb dX7_typesNumber_5 (by decide +kernel) ?_
      refine x_icmp_le (tgt := 18) hx hb dX7_typesNumber_7 (by decide) (by omega) (by omega) (fun c_7 => ?_) (fun c_7 => ?_)
      · have lp18 : ∀ (n : Nat) (b : Int) (P : Int → Int) (L : Int) (m1 : Nat) (j : Int), m1 < n → (m1 = 0 ∧ b = 0) ∨ (∃ g : Nat, m1 = g + 1 ∧ g ≤ 9 ∧ b = 10 ^ g) → 0 ≤ j ∧ j + (m1 : Int) = (ndg v : Int) → P = numJ pd ln v j → L = ln + j → ∀ (H : Heap) (locs : List Loc), mAt D cs a σ pa sl sv P kn L H → va_S (mC a) s.heap H locs → ∀ (ls : Array Slot), lv_has ls 3 [(2, .int (zI b)), (0, .ref (a 0)), (1, .int (zI v))] → W p l e (headSpec wsX7_typesNumber ({ frames := 1, cells := 0, slots := 0, locals := 21 } : Room)).room s m ([.ref (a 0), .int (zI v)] : List Value).toArray below meth c H locs 0 0 (MQ below (kQ none (fun H => mAt D cs a σ pa sl sv (numW pd ln v) kn (ln + (ndg v : Int)) H) (mC a)) ([.ref (a 0), .int (zI v)] : List Value).toArray s 0 0 (mC a)) (F0 m 18 ls []) := by
          intro n
          induction n with
          | zero => intro b P L m1 j hms; exact absurd hms (Nat.not_lt_zero _)
          | succ n ih =>
            intro b P L m1 j hms kb kj kP kL H locs hM hS ls hl
            have kb0 : 0 ≤ b ∧ b ≤ 1000000000 := by rcases kb with ⟨_, h⟩ | ⟨g, _, h, h2⟩ <;> first | omega | (rw [h2]; exact ⟨Int.le_of_lt (ten_pos g), ten_9 h⟩)
            have ih18 := ih
            clear ih
            refine lv_iload_n hx hb dX7_typesNumber_18 rfl (lv_at hl 0 rfl) ?_
            refine x_if_le (tgt := 43) hx hb dX7_typesNumber_19 (by decide) (by omega) (fun c_19 => ?_) (fun c_19 => ?_)
            · have km : m1 = 0 := by rcases kb with ⟨h, h2⟩ | ⟨g, h, h3, h2⟩ <;> first | exact h | (exfalso; have := ten_pos g; omega)
              exact x_vretM hx hb hr hlocks (mAt_cong hM rfl rfl rfl rfl (by rw [kP, ← numJ_all, show j = (ndg v : Int) by omega]) rfl (by omega)) hS dX7_typesNumber_43
            · have hq0 : 0 ≤ v / b := Int.ediv_nonneg hv.1 (by omega)
              have hq1 : v / b ≤ v := Int.ediv_le_self _ hv.1
              refine lv_aload_n hx hb dX7_typesNumber_22 rfl (lv_at hl 1 rfl) ?_
              refine x_bipush hx hb dX7_typesNumber_23 (by decide +kernel) ?_
              refine lv_iload_n hx hb dX7_typesNumber_25 rfl (lv_at hl 2 rfl) ?_
              refine lv_iload_n hx hb dX7_typesNumber_26 rfl (lv_at hl 0 rfl) ?_
              refine x_idiv hx hb (by omega) (by omega) dX7_typesNumber_27 ?_
              refine x_bipush hx hb dX7_typesNumber_28 (by decide +kernel) ?_
              refine x_irem hx hb (by omega) (by omega) dX7_typesNumber_30 ?_
              refine x_iadd hx hb dX7_typesNumber_31 ?_
              refine x_callVMn (As := [.int (zI (48 + ((v / b) % 10)))]) (rest := []) S hK (c_X7_types l D cs a σ pa sl sv P kn L (48 + ((v / b) % 10)) (by omega) (by omega)) (cwV 1 hts gX7_typesNumber_X7_types rfl rfl rfl (by decide +kernel) ⟨(Nat.le_of_ble_eq_true rfl), (Nat.le_of_ble_eq_true rfl)⟩) (x_rc hK (mAt_0 hM) rfl) hM rfl hl.1 (Nat.le_of_ble_eq_true rfl) dX7_typesNumber_32 ⟨Nat.zero_le _, Nat.zero_le _⟩ hS (fun q hq => hq) (fun H locs hB hF hS => ?_)
              have hM : mAt D cs a σ pa sl sv (up P L (48 + ((v / b) % 10))) kn (L + 1) H := hB
              refine lv_iload_n hx hb dX7_typesNumber_35 rfl (lv_at hl 0 rfl) ?_
              refine x_bipush hx hb dX7_typesNumber_36 (by decide +kernel) ?_
              refine x_idiv hx hb (by omega) (by omega) dX7_typesNumber_38 ?_
              refine lv_istore_n (lv' := [(2, .int (zI (b / 10))), (0, .ref (a 0)), (1, .int (zI v))]) hx hb dX7_typesNumber_39 rfl hl (by decide) rfl (fun ls hl => ?_)
              refine lv_goto (tgt := 18) hx hb dX7_typesNumber_40 (by decide) ?_
              exact ih18 (b / 10) (up P L (48 + ((v / b) % 10))) (L + 1) (m1 - 1) (j + 1) (by rcases kb with ⟨h, h2⟩ | ⟨g, h, h3, h2⟩ <;> omega) (by rcases kb with ⟨h, h2⟩ | ⟨g, h, h3, h2⟩ <;> first | omega | (cases g with | zero => left; subst h; subst h2; exact ⟨rfl, rfl⟩ | succ g => right; refine ⟨g, by omega, by omega, ?_⟩; rw [h2, ten_s]; exact Int.mul_ediv_cancel _ (by decide))) (by rcases kb with ⟨h, h2⟩ | ⟨g, h, h3, h2⟩ <;> omega) (by rw [kP]; refine numJ_step kL kj.1 ?_; rcases kb with ⟨h, h2⟩ | ⟨g, h, h3, h2⟩ <;> first | omega | rw [h2, show ndg v - 1 - j.toNat = g by omega]) (by omega) H locs hM hS ls (lv_sub hl [0, 1, 2] rfl)
        exact lp18 ((m0 + 1) + 1) b pd ln (m0 + 1) 0 (Nat.lt_succ_self _) (by exact Or.inr ⟨m0, rfl, hm, hb1⟩) (by rw [hd, dgs_1 _ _ (by omega)]; omega) (by exact (numJ_0 _ _ _).symm) (by omega) H locs hM hS ls (lv_sub hl [0, 1, 2] rfl)
      · refine lv_iload_n hx hb dX7_typesNumber_10 rfl (lv_at hl 0 rfl) ?_
        refine x_bipush hx hb dX7_typesNumber_11 (by decide +kernel) ?_
        refine x_imul hx hb dX7_typesNumber_13 ?_
        refine lv_istore_n (lv' := [(2, .int (zI (b * 10))), (0, .ref (a 0)), (1, .int (zI v))]) hx hb dX7_typesNumber_14 rfl hl (by decide) rfl (fun ls hl => ?_)
        refine lv_goto (tgt := 2) hx hb dX7_typesNumber_15 (by decide) ?_
        exact ih2 (b * 10) (m0 + 1) (by omega) (by omega) (by rw [ten_s, hb1]) (by have : b * 10 ≤ 1000000000 := (by rw [hb1, ← ten_s]; exact ten_9 (by omega)); omega) (by obtain ⟨g, hg⟩ : ∃ g, 9 - m0 = g + 1 := ⟨8 - m0, by omega⟩; rw [hd, hg, dgs_s (by omega), hb1, ← ten_s, ten_div, show 9 - (m0 + 1) = g by omega]; omega) H locs hM hS ls (lv_sub hl [0, 1, 2] rfl)
  exact lp2 (9 - (0 : Nat) + 1) 1 0 (Nat.lt_succ_self _) (by omega) (by rfl) (by omega) (by rw [Int.ediv_one, Nat.zero_add]; rfl) s.heap [] hM hS ls (lv_sub hl [0, 1, 2] rfl)
set_option maxHeartbeats 4000000 in
set_option maxRecDepth 100000 in
theorem c_X7_write_bad (l : Launch) (D : va_G) (cs : Nat → ClassId) (a : Int → Nat) (σ : Int → Int) (pa : Int → Int) (sl : Int → Int) (sv : Int → Int) (pd : Int → Int) (kn : Int) (ln : Int) (k : Int) (h7 : 0 ≤ σ 7 ∧ σ 7 ≤ 7) (hk : -2147483648 ≤ k ∧ k < 2147483648) (hn : ¬ (0 ≤ k ∧ k < σ 7)) : kR D cs l yX7_write wsX7_write ({ frames := 2, cells := 0, slots := 0, locals := 43 } : Room) [.ref (a 0), .int (zI k)] (fun H => mAt D cs a σ pa sl sv pd kn ln H) (some (.int (zI (-1)))) := by
  refine Met.ofW (cc := cX7_write) (maxL := 2) (ret := (some .int)) (by decide) rfl ?_
  intro p e s m args below meth c s₁ B hml hv
  obtain ⟨rfl, hK, hM⟩ := hv
  have hx := B.exec
  have hb := B.bytes
  have hr := B.returns
  have hts := atoms_spec (ws := wsX7_write) B.pre
  have hown : s.vm.findClass RX7 = some m.cls := findClass_of_methodNamed B.named
  have hlocks := B.notSynchronized
  have S : CallFix p m c cX7_write 2 s (([.ref (a 0), .int (zI k)] : List Value)).toArray wsX7_write RX7 := ⟨hx, hb, hml, hown, hts⟩
  have hin7 : ∀ w ∈ wsX70, w ∈ wsX7_write := by decide +kernel
  have hl := lv_entry ([.ref (a 0), .int (zI k)]) (n := 2) (Nat.le_of_ble_eq_true rfl)
  rw [lg_entry_eq]
  generalize (lg_sl ([.ref (a 0), .int (zI k)]) ++ List.replicate (2 - (lg_sl ([.ref (a 0), .int (zI k)])).length) Slot.unset).toArray = ls at hl ⊢
  have hl : lv_has ls 2 [(0, .ref (a 0)), (1, .int (zI k))] := hl
  refine lv_aload_n hx hb dX7_write_0 rfl (lv_at hl 0 rfl) ?_
  refine lv_iload_n hx hb dX7_write_1 rfl (lv_at hl 1 rfl) ?_
  refine x_callVR (As := [.int (zI k)]) (rest := []) S hK (c_X7_isMeter l D cs a σ pa sl sv pd kn ln k (by omega) (by omega)) (cwV 1 hts gX7_write_X7_isMeter rfl rfl rfl (by decide +kernel) ⟨(Nat.le_of_ble_eq_true rfl), (Nat.le_of_ble_eq_true rfl)⟩) (x_rc hK (mAt_0 hM) rfl) hM rfl hl.1 (Nat.le_of_ble_eq_true rfl) dX7_write_2 ⟨Nat.zero_le _, Nat.zero_le _⟩ ?_
  refine x_ifb_ne (tgt := 10) hx hb dX7_write_5 (by decide)  (fun c_5 => ?_) (fun c_5 => ?_)
  · exact absurd c_5 hn
  · refine x_iconst hx hb dX7_write_8 ?_
    exact x_iretR hx hb hr hlocks (by first | rfl | omega) rfl dX7_write_9
set_option maxHeartbeats 4000000 in
set_option maxRecDepth 100000 in
theorem c_X7_write_ok (l : Launch) (D : va_G) (cs : Nat → ClassId) (a : Int → Nat) (σ : Int → Int) (pa : Int → Int) (sl : Int → Int) (sv : Int → Int) (pd : Int → Int) (kn : Int) (ln : Int) (k : Int) (h7 : 0 ≤ σ 7 ∧ σ 7 ≤ 7) (hk : 0 ≤ k ∧ k < σ 7) (hd3 : 0 ≤ σ (11 + 13 * k + 3) ∧ σ (11 + 13 * k + 3) < 2147483648) (hd4 : 0 ≤ σ (11 + 13 * k + 4) ∧ σ (11 + 13 * k + 4) < 2147483648) (hd6 : 0 ≤ σ (11 + 13 * k + 6) ∧ σ (11 + 13 * k + 6) < 2147483648) (hd7 : σ (11 + 13 * k + 7) = 0 ∨ σ (11 + 13 * k + 7) = 1) (hI : mI a) : kM D cs l yX7_write wsX7_write ({ frames := 2, cells := 0, slots := 0, locals := 43 } : Room) [.ref (a 0), .int (zI k)] (fun H => mAt D cs a σ pa sl sv pd kn ln H) (some (.int (zI (wrL (σ (11 + 13 * k + 3)) (σ (11 + 13 * k + 4)) (σ (11 + 13 * k + 6)) (σ (11 + 13 * k + 7)))))) (fun H => mAt D cs a σ pa sl sv (wrP pd (σ (11 + 13 * k + 3)) (σ (11 + 13 * k + 4)) (σ (11 + 13 * k + 6)) (σ (11 + 13 * k + 7))) kn (wrL (σ (11 + 13 * k + 3)) (σ (11 + 13 * k + 4)) (σ (11 + 13 * k + 6)) (σ (11 + 13 * k + 7))) H) (mC a) := by
  refine Met.ofW (cc := cX7_write) (maxL := 2) (ret := (some .int)) (by decide) rfl ?_
  intro p e s m args below meth c s₁ B hml hv
  obtain ⟨rfl, hK, hM⟩ := hv
  have hx := B.exec
  have hb := B.bytes
  have hr := B.returns
  have hts := atoms_spec (ws := wsX7_write) B.pre
  have hown : s.vm.findClass RX7 = some m.cls := findClass_of_methodNamed B.named
  have hlocks := B.notSynchronized
  have S : CallFix p m c cX7_write 2 s (([.ref (a 0), .int (zI k)] : List Value)).toArray wsX7_write RX7 := ⟨hx, hb, hml, hown, hts⟩
  have hin7 : ∀ w ∈ wsX70, w ∈ wsX7_write := by decide +kernel
  have hS : va_S (mC a) s.heap s.heap [] := va_S.rf
  have hl := lv_entry ([.ref (a 0), .int (zI k)]) (n := 2) (Nat.le_of_ble_eq_true rfl)
  rw [lg_entry_eq]
  generalize (lg_sl ([.ref (a 0), .int (zI k)]) ++ List.replicate (2 - (lg_sl ([.ref (a 0), .int (zI k)])).length) Slot.unset).toArray = ls at hl ⊢
  have hl : lv_has ls 2 [(0, .ref (a 0)), (1, .int (zI k))] := hl
  have n3 := ndg_le (σ (11 + 13 * k + 3))
  have n4 := ndg_le (σ (11 + 13 * k + 4))
  have n6 := ndg_le (σ (11 + 13 * k + 6))
  have l2 : wl2 (σ (11 + 13 * k + 3)) = 0 + 1 + (ndg (σ (11 + 13 * k + 3)) : Int) := rfl
  have l4 : wl4 (σ (11 + 13 * k + 3)) (σ (11 + 13 * k + 4)) = wl2 (σ (11 + 13 * k + 3)) + 1 + (ndg (σ (11 + 13 * k + 4)) : Int) := rfl
  have l6 : wl6 (σ (11 + 13 * k + 3)) (σ (11 + 13 * k + 4)) (σ (11 + 13 * k + 6)) = wl4 (σ (11 + 13 * k + 3)) (σ (11 + 13 * k + 4)) + 1 + (ndg (σ (11 + 13 * k + 6)) : Int) := rfl
  refine lv_aload_n hx hb dX7_write_0 rfl (lv_at hl 0 rfl) ?_
  refine lv_iload_n hx hb dX7_write_1 rfl (lv_at hl 1 rfl) ?_
  refine x_callVR (As := [.int (zI k)]) (rest := []) S hK (c_X7_isMeter l D cs a σ pa sl sv pd kn ln k (by omega) (by omega)) (cwV 1 hts gX7_write_X7_isMeter rfl rfl rfl (by decide +kernel) ⟨(Nat.le_of_ble_eq_true rfl), (Nat.le_of_ble_eq_true rfl)⟩) (x_rc hK (mAt_0 hM) rfl) hM rfl hl.1 (Nat.le_of_ble_eq_true rfl) dX7_write_2 ⟨Nat.zero_le _, Nat.zero_le _⟩ ?_
  refine x_ifb_ne (tgt := 10) hx hb dX7_write_5 (by decide)  (fun c_5 => ?_) (fun c_5 => ?_)
  · refine lv_aload_n hx hb dX7_write_10 rfl (lv_at hl 0 rfl) ?_
    refine x_iconst hx hb dX7_write_11 ?_
    refine m_p_length S hin7 hK hM hI hS (hts (.fieldLink RX7 135 "EnergyDiscsModel" "length" "I") (by decide +kernel)) dX7_write_12 (fun H locs hM hS => ?_)
    refine lv_aload_n hx hb dX7_write_15 rfl (lv_at hl 0 rfl) ?_
    refine x_bipush hx hb dX7_write_16 (by decide +kernel) ?_
    refine x_callVMn (As := [.int (zI 100)]) (rest := []) S hK (c_X7_types l D cs a σ pa sl sv pd kn 0 100 (by omega) (by omega)) (cwV 1 hts gX7_write_X7_types rfl rfl rfl (by decide +kernel) ⟨(Nat.le_of_ble_eq_true rfl), (Nat.le_of_ble_eq_true rfl)⟩) (x_rc hK (mAt_0 hM) rfl) hM rfl hl.1 (Nat.le_of_ble_eq_true rfl) dX7_write_18 ⟨Nat.zero_le _, Nat.zero_le _⟩ hS (fun q hq => hq) (fun H locs hB hF hS => ?_)
    have hM : mAt D cs a σ pa sl sv (up pd 0 100) kn (0 + 1) H := hB
    refine lv_aload_n hx hb dX7_write_21 rfl (lv_at hl 0 rfl) ?_
    refine lv_aload_n hx hb dX7_write_22 rfl (lv_at hl 0 rfl) ?_
    refine lv_iload_n hx hb dX7_write_23 rfl (lv_at hl 1 rfl) ?_
    refine x_iconst hx hb dX7_write_24 ?_
    refine x_callVR (As := [.int (zI k), .int (zI 3)]) (rest := [.ref (a 0)]) S hK (c_X7_its l D cs a σ pa sl sv (up pd 0 100) kn (0 + 1) k 3 (by omega) (by omega)) (cwV 2 hts gX7_write_X7_its rfl rfl rfl (by decide +kernel) ⟨(Nat.le_of_ble_eq_true rfl), (Nat.le_of_ble_eq_true rfl)⟩) (x_rc hK (mAt_0 hM) rfl) hM rfl hl.1 (Nat.le_of_ble_eq_true rfl) dX7_write_25 ⟨Nat.zero_le _, Nat.zero_le _⟩ ?_
    refine x_callVMn (As := [.int (zI (σ (11 + 13 * k + 3)))]) (rest := []) S hK (c_X7_typesNumber l D cs a σ pa sl sv (up pd 0 100) kn (0 + 1) (σ (11 + 13 * k + 3)) (by omega) (by omega) (by omega)) (cwV 1 hts gX7_write_X7_typesNumber rfl rfl rfl (by decide +kernel) ⟨(Nat.le_of_ble_eq_true rfl), (Nat.le_of_ble_eq_true rfl)⟩) (x_rc hK (mAt_0 hM) rfl) hM rfl hl.1 (Nat.le_of_ble_eq_true rfl) dX7_write_28 ⟨Nat.zero_le _, Nat.zero_le _⟩ hS (fun q hq => hq) (fun H locs hB hF hS => ?_)
    have hM : mAt D cs a σ pa sl sv (numW (up pd 0 100) (0 + 1) (σ (11 + 13 * k + 3))) kn ((0 + 1) + (ndg (σ (11 + 13 * k + 3)) : Int)) H := hB
    have hM : mAt D cs a σ pa sl sv (wp2 pd (σ (11 + 13 * k + 3))) kn ((0 + 1) + (ndg (σ (11 + 13 * k + 3)) : Int)) H := hM
    have hM : mAt D cs a σ pa sl sv (wp2 pd (σ (11 + 13 * k + 3))) kn (wl2 (σ (11 + 13 * k + 3))) H := hM
    refine lv_aload_n hx hb dX7_write_31 rfl (lv_at hl 0 rfl) ?_
    refine x_bipush hx hb dX7_write_32 (by decide +kernel) ?_
    refine x_callVMn (As := [.int (zI 110)]) (rest := []) S hK (c_X7_types l D cs a σ pa sl sv (wp2 pd (σ (11 + 13 * k + 3))) kn (wl2 (σ (11 + 13 * k + 3))) 110 (by omega) (by omega)) (cwV 1 hts gX7_write_X7_types rfl rfl rfl (by decide +kernel) ⟨(Nat.le_of_ble_eq_true rfl), (Nat.le_of_ble_eq_true rfl)⟩) (x_rc hK (mAt_0 hM) rfl) hM rfl hl.1 (Nat.le_of_ble_eq_true rfl) dX7_write_34 ⟨Nat.zero_le _, Nat.zero_le _⟩ hS (fun q hq => hq) (fun H locs hB hF hS => ?_)
    have hM : mAt D cs a σ pa sl sv (up (wp2 pd (σ (11 + 13 * k + 3))) (wl2 (σ (11 + 13 * k + 3))) 110) kn ((wl2 (σ (11 + 13 * k + 3))) + 1) H := hB
    refine lv_aload_n hx hb dX7_write_37 rfl (lv_at hl 0 rfl) ?_
    refine lv_aload_n hx hb dX7_write_38 rfl (lv_at hl 0 rfl) ?_
    refine lv_iload_n hx hb dX7_write_39 rfl (lv_at hl 1 rfl) ?_
    refine x_iconst hx hb dX7_write_40 ?_
    refine x_callVR (As := [.int (zI k), .int (zI 4)]) (rest := [.ref (a 0)]) S hK (c_X7_its l D cs a σ pa sl sv (up (wp2 pd (σ (11 + 13 * k + 3))) (wl2 (σ (11 + 13 * k + 3))) 110) kn ((wl2 (σ (11 + 13 * k + 3))) + 1) k 4 (by omega) (by omega)) (cwV 2 hts gX7_write_X7_its rfl rfl rfl (by decide +kernel) ⟨(Nat.le_of_ble_eq_true rfl), (Nat.le_of_ble_eq_true rfl)⟩) (x_rc hK (mAt_0 hM) rfl) hM rfl hl.1 (Nat.le_of_ble_eq_true rfl) dX7_write_41 ⟨Nat.zero_le _, Nat.zero_le _⟩ ?_
    refine x_callVMn (As := [.int (zI (σ (11 + 13 * k + 4)))]) (rest := []) S hK (c_X7_typesNumber l D cs a σ pa sl sv (up (wp2 pd (σ (11 + 13 * k + 3))) (wl2 (σ (11 + 13 * k + 3))) 110) kn ((wl2 (σ (11 + 13 * k + 3))) + 1) (σ (11 + 13 * k + 4)) (by omega) (by omega) (by omega)) (cwV 1 hts gX7_write_X7_typesNumber rfl rfl rfl (by decide +kernel) ⟨(Nat.le_of_ble_eq_true rfl), (Nat.le_of_ble_eq_true rfl)⟩) (x_rc hK (mAt_0 hM) rfl) hM rfl hl.1 (Nat.le_of_ble_eq_true rfl) dX7_write_44 ⟨Nat.zero_le _, Nat.zero_le _⟩ hS (fun q hq => hq) (fun H locs hB hF hS => ?_)
    have hM : mAt D cs a σ pa sl sv (numW (up (wp2 pd (σ (11 + 13 * k + 3))) (wl2 (σ (11 + 13 * k + 3))) 110) ((wl2 (σ (11 + 13 * k + 3))) + 1) (σ (11 + 13 * k + 4))) kn (((wl2 (σ (11 + 13 * k + 3))) + 1) + (ndg (σ (11 + 13 * k + 4)) : Int)) H := hB
    have hM : mAt D cs a σ pa sl sv (wp4 pd (σ (11 + 13 * k + 3)) (σ (11 + 13 * k + 4))) kn (((wl2 (σ (11 + 13 * k + 3))) + 1) + (ndg (σ (11 + 13 * k + 4)) : Int)) H := hM
    have hM : mAt D cs a σ pa sl sv (wp4 pd (σ (11 + 13 * k + 3)) (σ (11 + 13 * k + 4))) kn (wl4 (σ (11 + 13 * k + 3)) (σ (11 + 13 * k + 4))) H := hM
    refine lv_aload_n hx hb dX7_write_47 rfl (lv_at hl 0 rfl) ?_
    refine x_bipush hx hb dX7_write_48 (by decide +kernel) ?_
    refine x_callVMn (As := [.int (zI 35)]) (rest := []) S hK (c_X7_types l D cs a σ pa sl sv (wp4 pd (σ (11 + 13 * k + 3)) (σ (11 + 13 * k + 4))) kn (wl4 (σ (11 + 13 * k + 3)) (σ (11 + 13 * k + 4))) 35 (by omega) (by omega)) (cwV 1 hts gX7_write_X7_types rfl rfl rfl (by decide +kernel) ⟨(Nat.le_of_ble_eq_true rfl), (Nat.le_of_ble_eq_true rfl)⟩) (x_rc hK (mAt_0 hM) rfl) hM rfl hl.1 (Nat.le_of_ble_eq_true rfl) dX7_write_50 ⟨Nat.zero_le _, Nat.zero_le _⟩ hS (fun q hq => hq) (fun H locs hB hF hS => ?_)
    have hM : mAt D cs a σ pa sl sv (up (wp4 pd (σ (11 + 13 * k + 3)) (σ (11 + 13 * k + 4))) (wl4 (σ (11 + 13 * k + 3)) (σ (11 + 13 * k + 4))) 35) kn ((wl4 (σ (11 + 13 * k + 3)) (σ (11 + 13 * k + 4))) + 1) H := hB
    refine lv_aload_n hx hb dX7_write_53 rfl (lv_at hl 0 rfl) ?_
    refine lv_aload_n hx hb dX7_write_54 rfl (lv_at hl 0 rfl) ?_
    refine lv_iload_n hx hb dX7_write_55 rfl (lv_at hl 1 rfl) ?_
    refine x_bipush hx hb dX7_write_56 (by decide +kernel) ?_
    refine x_callVR (As := [.int (zI k), .int (zI 6)]) (rest := [.ref (a 0)]) S hK (c_X7_its l D cs a σ pa sl sv (up (wp4 pd (σ (11 + 13 * k + 3)) (σ (11 + 13 * k + 4))) (wl4 (σ (11 + 13 * k + 3)) (σ (11 + 13 * k + 4))) 35) kn ((wl4 (σ (11 + 13 * k + 3)) (σ (11 + 13 * k + 4))) + 1) k 6 (by omega) (by omega)) (cwV 2 hts gX7_write_X7_its rfl rfl rfl (by decide +kernel) ⟨(Nat.le_of_ble_eq_true rfl), (Nat.le_of_ble_eq_true rfl)⟩) (x_rc hK (mAt_0 hM) rfl) hM rfl hl.1 (Nat.le_of_ble_eq_true rfl) dX7_write_58 ⟨Nat.zero_le _, Nat.zero_le _⟩ ?_
    refine x_callVMn (As := [.int (zI (σ (11 + 13 * k + 6)))]) (rest := []) S hK (c_X7_typesNumber l D cs a σ pa sl sv (up (wp4 pd (σ (11 + 13 * k + 3)) (σ (11 + 13 * k + 4))) (wl4 (σ (11 + 13 * k + 3)) (σ (11 + 13 * k + 4))) 35) kn ((wl4 (σ (11 + 13 * k + 3)) (σ (11 + 13 * k + 4))) + 1) (σ (11 + 13 * k + 6)) (by omega) (by omega) (by omega)) (cwV 1 hts gX7_write_X7_typesNumber rfl rfl rfl (by decide +kernel) ⟨(Nat.le_of_ble_eq_true rfl), (Nat.le_of_ble_eq_true rfl)⟩) (x_rc hK (mAt_0 hM) rfl) hM rfl hl.1 (Nat.le_of_ble_eq_true rfl) dX7_write_61 ⟨Nat.zero_le _, Nat.zero_le _⟩ hS (fun q hq => hq) (fun H locs hB hF hS => ?_)
    have hM : mAt D cs a σ pa sl sv (numW (up (wp4 pd (σ (11 + 13 * k + 3)) (σ (11 + 13 * k + 4))) (wl4 (σ (11 + 13 * k + 3)) (σ (11 + 13 * k + 4))) 35) ((wl4 (σ (11 + 13 * k + 3)) (σ (11 + 13 * k + 4))) + 1) (σ (11 + 13 * k + 6))) kn (((wl4 (σ (11 + 13 * k + 3)) (σ (11 + 13 * k + 4))) + 1) + (ndg (σ (11 + 13 * k + 6)) : Int)) H := hB
    have hM : mAt D cs a σ pa sl sv (wp6 pd (σ (11 + 13 * k + 3)) (σ (11 + 13 * k + 4)) (σ (11 + 13 * k + 6))) kn (((wl4 (σ (11 + 13 * k + 3)) (σ (11 + 13 * k + 4))) + 1) + (ndg (σ (11 + 13 * k + 6)) : Int)) H := hM
    have hM : mAt D cs a σ pa sl sv (wp6 pd (σ (11 + 13 * k + 3)) (σ (11 + 13 * k + 4)) (σ (11 + 13 * k + 6))) kn (wl6 (σ (11 + 13 * k + 3)) (σ (11 + 13 * k + 4)) (σ (11 + 13 * k + 6))) H := hM
    refine lv_aload_n hx hb dX7_write_64 rfl (lv_at hl 0 rfl) ?_
    refine lv_iload_n hx hb dX7_write_65 rfl (lv_at hl 1 rfl) ?_
    refine x_bipush hx hb dX7_write_66 (by decide +kernel) ?_
    refine x_callVR (As := [.int (zI k), .int (zI 7)]) (rest := []) S hK (c_X7_its l D cs a σ pa sl sv (wp6 pd (σ (11 + 13 * k + 3)) (σ (11 + 13 * k + 4)) (σ (11 + 13 * k + 6))) kn (wl6 (σ (11 + 13 * k + 3)) (σ (11 + 13 * k + 4)) (σ (11 + 13 * k + 6))) k 7 (by omega) (by omega)) (cwV 2 hts gX7_write_X7_its rfl rfl rfl (by decide +kernel) ⟨(Nat.le_of_ble_eq_true rfl), (Nat.le_of_ble_eq_true rfl)⟩) (x_rc hK (mAt_0 hM) rfl) hM rfl hl.1 (Nat.le_of_ble_eq_true rfl) dX7_write_68 ⟨Nat.zero_le _, Nat.zero_le _⟩ ?_
    refine x_iconst hx hb dX7_write_71 ?_
    refine x_icmp_ne (tgt := 81) hx hb dX7_write_72 (by decide) (by omega) (by omega) (fun c_72 => ?_) (fun c_72 => ?_)
    · refine lv_aload_n hx hb dX7_write_81 rfl (lv_at hl 0 rfl) ?_
      refine m_g_length S hin7 hK hM (hts (.fieldLink RX7 135 "EnergyDiscsModel" "length" "I") (by decide +kernel)) dX7_write_82 ?_
      exact x_iretM hx hb hr hlocks (by unfold wrL; first | rw [if_pos (by assumption)] | rw [if_neg (by assumption)]) (mAt_cong hM rfl rfl rfl rfl (by unfold wrP; first | rw [if_pos (by assumption)] | rw [if_neg (by assumption)]) rfl (by unfold wrL; first | rw [if_pos (by assumption)] | rw [if_neg (by assumption)])) hS dX7_write_85
    · refine lv_aload_n hx hb dX7_write_75 rfl (lv_at hl 0 rfl) ?_
      refine x_bipush hx hb dX7_write_76 (by decide +kernel) ?_
      refine x_callVMn (As := [.int (zI 33)]) (rest := []) S hK (c_X7_types l D cs a σ pa sl sv (wp6 pd (σ (11 + 13 * k + 3)) (σ (11 + 13 * k + 4)) (σ (11 + 13 * k + 6))) kn (wl6 (σ (11 + 13 * k + 3)) (σ (11 + 13 * k + 4)) (σ (11 + 13 * k + 6))) 33 (by omega) (by omega)) (cwV 1 hts gX7_write_X7_types rfl rfl rfl (by decide +kernel) ⟨(Nat.le_of_ble_eq_true rfl), (Nat.le_of_ble_eq_true rfl)⟩) (x_rc hK (mAt_0 hM) rfl) hM rfl hl.1 (Nat.le_of_ble_eq_true rfl) dX7_write_78 ⟨Nat.zero_le _, Nat.zero_le _⟩ hS (fun q hq => hq) (fun H locs hB hF hS => ?_)
      have hM : mAt D cs a σ pa sl sv (up (wp6 pd (σ (11 + 13 * k + 3)) (σ (11 + 13 * k + 4)) (σ (11 + 13 * k + 6))) (wl6 (σ (11 + 13 * k + 3)) (σ (11 + 13 * k + 4)) (σ (11 + 13 * k + 6))) 33) kn ((wl6 (σ (11 + 13 * k + 3)) (σ (11 + 13 * k + 4)) (σ (11 + 13 * k + 6))) + 1) H := hB
      refine lv_aload_n hx hb dX7_write_81 rfl (lv_at hl 0 rfl) ?_
      refine m_g_length S hin7 hK hM (hts (.fieldLink RX7 135 "EnergyDiscsModel" "length" "I") (by decide +kernel)) dX7_write_82 ?_
      exact x_iretM hx hb hr hlocks (by unfold wrL; first | rw [if_pos (by assumption)] | rw [if_neg (by assumption)]) (mAt_cong hM rfl rfl rfl rfl (by unfold wrP; first | rw [if_pos (by assumption)] | rw [if_neg (by assumption)]) rfl (by unfold wrL; first | rw [if_pos (by assumption)] | rw [if_neg (by assumption)])) hS dX7_write_85
  · exact absurd hk c_5
set_option maxHeartbeats 4000000 in
set_option maxRecDepth 100000 in
theorem c_X7_sign (l : Launch) (D : va_G) (cs : Nat → ClassId) (a : Int → Nat) (σ : Int → Int) (pa : Int → Int) (sl : Int → Int) (sv : Int → Int) (pd : Int → Int) (kn : Int) (ln : Int) (k : Int) (hk : -2147483648 ≤ k ∧ k < 2147483648) (hl0 : 0 ≤ ln ∧ ln ≤ 80) : kR D cs l yX7_sign wsX7_sign ({ frames := 1, cells := 0, slots := 0, locals := 22 } : Room) [.ref (a 0), .int (zI k)] (fun H => mAt D cs a σ pa sl sv pd kn ln H) (some (.int (zI (if 0 ≤ k ∧ k < ln then pd k else -1)))) := by
  refine Met.ofW (cc := cX7_sign) (maxL := 2) (ret := (some .int)) (by decide) rfl ?_
  intro p e s m args below meth c s₁ B hml hv
  obtain ⟨rfl, hK, hM⟩ := hv
  have hx := B.exec
  have hb := B.bytes
  have hr := B.returns
  have hts := atoms_spec (ws := wsX7_sign) B.pre
  have hown : s.vm.findClass RX7 = some m.cls := findClass_of_methodNamed B.named
  have hlocks := B.notSynchronized
  have S : CallFix p m c cX7_sign 2 s (([.ref (a 0), .int (zI k)] : List Value)).toArray wsX7_sign RX7 := ⟨hx, hb, hml, hown, hts⟩
  have hin7 : ∀ w ∈ wsX70, w ∈ wsX7_sign := by decide +kernel
  have hl := lv_entry ([.ref (a 0), .int (zI k)]) (n := 2) (Nat.le_of_ble_eq_true rfl)
  rw [lg_entry_eq]
  generalize (lg_sl ([.ref (a 0), .int (zI k)]) ++ List.replicate (2 - (lg_sl ([.ref (a 0), .int (zI k)])).length) Slot.unset).toArray = ls at hl ⊢
  have hl : lv_has ls 2 [(0, .ref (a 0)), (1, .int (zI k))] := hl
  refine lv_iload_n hx hb dX7_sign_0 rfl (lv_at hl 1 rfl) ?_
  refine x_iconst hx hb dX7_sign_1 ?_
  refine lv_aload_n hx hb dX7_sign_2 rfl (lv_at hl 0 rfl) ?_
  refine m_g_length S hin7 hK hM (hts (.fieldLink RX7 135 "EnergyDiscsModel" "length" "I") (by decide +kernel)) dX7_sign_3 ?_
  refine x_iconst hx hb dX7_sign_6 ?_
  refine x_isub hx hb dX7_sign_7 ?_
  refine x_callSR (As := [.int (zI k), .int (zI 0), .int (zI (ln - 1))]) (rest := []) S hK (c_X7_in l D cs k 0 (ln - 1) (by omega) (by omega) (by omega)) (va_cwS 3 hts gX7_sign_X7_in rfl rfl rfl (by decide +kernel) ⟨(Nat.le_of_ble_eq_true rfl), (Nat.le_of_ble_eq_true rfl)⟩) trivial rfl hl.1 (Nat.le_of_ble_eq_true rfl) dX7_sign_8 ⟨Nat.zero_le _, Nat.zero_le _⟩ ?_
  refine x_ifb_eq (tgt := 23) hx hb dX7_sign_11 (by decide)  (fun c_11 => ?_) (fun c_11 => ?_)
  · refine x_iconst hx hb dX7_sign_23 ?_
    exact x_iretR hx hb hr hlocks (by first | (rw [if_pos (by omega)]) | (rw [if_neg (by omega)])) rfl dX7_sign_24
  · refine lv_aload_n hx hb dX7_sign_14 rfl (lv_at hl 0 rfl) ?_
    refine m_g_pad S hin7 hK hM (hts (.fieldLink RX7 23 "EnergyDiscsModel" "pad" "[I") (by decide +kernel)) dX7_sign_15 ?_
    refine lv_iload_n hx hb dX7_sign_18 rfl (lv_at hl 1 rfl) ?_
    refine m_l_pad S hK hM (by omega) dX7_sign_19 ?_
    refine lv_goto (tgt := 24) hx hb dX7_sign_20 (by decide) ?_
    exact x_iretR hx hb hr hlocks (by first | (rw [if_pos (by omega)]) | (rw [if_neg (by omega)])) rfl dX7_sign_24
