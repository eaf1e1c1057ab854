set_option maxHeartbeats 4000000 in
set_option maxRecDepth 100000 in
theorem c_X4_begin (l : Launch) (D : va_G) (cs : Nat → ClassId) (b : Nat) (f : Int → Int) (th : Int) (no : Int)  : kM D cs l yX4_begin wsX4_begin ({ frames := 0, cells := 0, slots := 0, locals := 0 } : Room) [.ref b, .int (zI th), .int (zI no)] (fun H => tAt D b f H) none (fun H => tAt D b (bgM th no) H) (oneC b) := by
  refine Met.ofW (cc := cX4_begin) (maxL := 3) (ret := none) (by decide) rfl ?_
  intro p e s m args below meth c s₁ B hml hv
  obtain ⟨rfl, hK, hT⟩ := hv
  have hx := B.exec
  have hb := B.bytes
  have hr := B.returns
  have hts := atoms_spec (ws := wsX4_begin) B.pre
  have hown : s.vm.findClass RX4 = some m.cls := findClass_of_methodNamed B.named
  have hlocks := B.notSynchronized
  have S : CallFix p m c cX4_begin 3 s (([.ref b, .int (zI th), .int (zI no)] : List Value)).toArray wsX4_begin RX4 := ⟨hx, hb, hml, hown, hts⟩
  have hin4 : ∀ w ∈ wsX40, w ∈ wsX4_begin := by decide +kernel
  have hS : va_S (oneC b) s.heap s.heap [] := va_S.rf
  have hl := lv_entry ([.ref b, .int (zI th), .int (zI no)]) (n := 3) (Nat.le_of_ble_eq_true rfl)
  rw [lg_entry_eq]
  generalize (lg_sl ([.ref b, .int (zI th), .int (zI no)]) ++ List.replicate (3 - (lg_sl ([.ref b, .int (zI th), .int (zI no)])).length) Slot.unset).toArray = ls at hl ⊢
  have hl : lv_has ls 3 [(0, .ref b), (1, .int (zI th)), (2, .int (zI no))] := hl
  refine lv_aload_n hx hb dX4_begin_0 rfl (lv_at hl 0 rfl) ?_
  refine lv_iload_n hx hb dX4_begin_1 rfl (lv_at hl 1 rfl) ?_
  refine t_p_through S hin4 hK hT hS (rfl) (hts (.fieldLink RX4 15 "EnergyDiscs$Meter" "through" "I") (by decide +kernel)) dX4_begin_2 (fun H locs hT hF hS => ?_)
  refine lv_aload_n hx hb dX4_begin_5 rfl (lv_at hl 0 rfl) ?_
  refine x_iconst hx hb dX4_begin_6 ?_
  refine t_p_place S hin4 hK hT hS (rfl) (hts (.fieldLink RX4 19 "EnergyDiscs$Meter" "place" "I") (by decide +kernel)) dX4_begin_7 (fun H locs hT hF hS => ?_)
  refine lv_aload_n hx hb dX4_begin_10 rfl (lv_at hl 0 rfl) ?_
  refine x_bipush hx hb dX4_begin_11 (by decide +kernel) ?_
  refine t_p_speed S hin4 hK hT hS (rfl) (hts (.fieldLink RX4 22 "EnergyDiscs$Meter" "speed" "I") (by decide +kernel)) dX4_begin_13 (fun H locs hT hF hS => ?_)
  refine lv_aload_n hx hb dX4_begin_16 rfl (lv_at hl 0 rfl) ?_
  refine x_iconst hx hb dX4_begin_17 ?_
  refine t_p_age S hin4 hK hT hS (rfl) (hts (.fieldLink RX4 25 "EnergyDiscs$Meter" "age" "I") (by decide +kernel)) dX4_begin_18 (fun H locs hT hF hS => ?_)
  refine lv_aload_n hx hb dX4_begin_21 rfl (lv_at hl 0 rfl) ?_
  refine x_iconst hx hb dX4_begin_22 ?_
  refine t_p_dayTurns S hin4 hK hT hS (rfl) (hts (.fieldLink RX4 28 "EnergyDiscs$Meter" "dayTurns" "I") (by decide +kernel)) dX4_begin_23 (fun H locs hT hF hS => ?_)
  refine lv_aload_n hx hb dX4_begin_26 rfl (lv_at hl 0 rfl) ?_
  refine x_iconst hx hb dX4_begin_27 ?_
  refine t_p_nightTurns S hin4 hK hT hS (rfl) (hts (.fieldLink RX4 31 "EnergyDiscs$Meter" "nightTurns" "I") (by decide +kernel)) dX4_begin_28 (fun H locs hT hF hS => ?_)
  refine lv_aload_n hx hb dX4_begin_31 rfl (lv_at hl 0 rfl) ?_
  refine x_iconst hx hb dX4_begin_32 ?_
  refine t_p_billedDayTurns S hin4 hK hT hS (rfl) (hts (.fieldLink RX4 34 "EnergyDiscs$Meter" "billedDayTurns" "I") (by decide +kernel)) dX4_begin_33 (fun H locs hT hF hS => ?_)
  refine lv_aload_n hx hb dX4_begin_36 rfl (lv_at hl 0 rfl) ?_
  refine x_iconst hx hb dX4_begin_37 ?_
  refine t_p_billedNightTurns S hin4 hK hT hS (rfl) (hts (.fieldLink RX4 37 "EnergyDiscs$Meter" "billedNightTurns" "I") (by decide +kernel)) dX4_begin_38 (fun H locs hT hF hS => ?_)
  refine lv_aload_n hx hb dX4_begin_41 rfl (lv_at hl 0 rfl) ?_
  refine x_lconst (v := 0) hx hb dX4_begin_42 rfl ?_
  refine t_p_flowed S hin4 hK hT hS (rfl) (hts (.fieldLink RX4 40 "EnergyDiscs$Meter" "flowed" "J") (by decide +kernel)) dX4_begin_43 (fun H locs hT hF hS => ?_)
  refine lv_aload_n hx hb dX4_begin_46 rfl (lv_at hl 0 rfl) ?_
  refine lv_iload_n hx hb dX4_begin_47 rfl (lv_at hl 2 rfl) ?_
  refine t_p_seal S hin4 hK hT hS (rfl) (hts (.fieldLink RX4 44 "EnergyDiscs$Meter" "seal" "I") (by decide +kernel)) dX4_begin_48 (fun H locs hT hF hS => ?_)
  refine lv_aload_n hx hb dX4_begin_51 rfl (lv_at hl 0 rfl) ?_
  refine x_iconst hx hb dX4_begin_52 ?_
  refine t_p_broken S hin4 hK hT hS (rfl) (hts (.fieldLink RX4 47 "EnergyDiscs$Meter" "broken" "Z") (by decide +kernel)) (by exact Or.inl rfl) dX4_begin_53 (fun H locs hT hF hS => ?_)
  refine lv_aload_n hx hb dX4_begin_56 rfl (lv_at hl 0 rfl) ?_
  refine x_iconst hx hb dX4_begin_57 ?_
  refine t_p_billed S hin4 hK hT hS (rfl) (hts (.fieldLink RX4 51 "EnergyDiscs$Meter" "billed" "I") (by decide +kernel)) dX4_begin_58 (fun H locs hT hF hS => ?_)
  refine lv_aload_n hx hb dX4_begin_61 rfl (lv_at hl 0 rfl) ?_
  refine x_iconst hx hb dX4_begin_62 ?_
  refine t_p_visits S hin4 hK hT hS (rfl) (hts (.fieldLink RX4 54 "EnergyDiscs$Meter" "visits" "I") (by decide +kernel)) dX4_begin_63 (fun H locs hT hF hS => ?_)
  exact x_vretM hx hb hr hlocks (tAt_cong hT (by simp [mvL, up, bgM, stM, mdM])) hS dX4_begin_66
set_option maxHeartbeats 4000000 in
set_option maxRecDepth 100000 in
theorem c_X4_copyFrom (l : Launch) (D : va_G) (cs : Nat → ClassId) (b : Nat) (f : Int → Int) (b2 : Nat) (f2 : Int → Int) (hne : b2 ≠ b) (h07 : f2 7 = 0 ∨ f2 7 = 1) : kM D cs l yX4_copyFrom wsX4_copyFrom ({ frames := 0, cells := 0, slots := 0, locals := 0 } : Room) [.ref b, .ref b2] (fun H => tAt D b f H ∧ tAt D b2 f2 H) none (fun H => tAt D b f2 H ∧ tAt D b2 f2 H) (oneC b) := by
  refine Met.ofW (cc := cX4_copyFrom) (maxL := 2) (ret := none) (by decide) rfl ?_
  intro p e s m args below meth c s₁ B hml hv
  obtain ⟨rfl, hK, hT, hT2⟩ := hv
  have hx := B.exec
  have hb := B.bytes
  have hr := B.returns
  have hts := atoms_spec (ws := wsX4_copyFrom) B.pre
  have hown : s.vm.findClass RX4 = some m.cls := findClass_of_methodNamed B.named
  have hlocks := B.notSynchronized
  have S : CallFix p m c cX4_copyFrom 2 s (([.ref b, .ref b2] : List Value)).toArray wsX4_copyFrom RX4 := ⟨hx, hb, hml, hown, hts⟩
  have hin4 : ∀ w ∈ wsX40, w ∈ wsX4_copyFrom := by decide +kernel
  have hS : va_S (oneC b) s.heap s.heap [] := va_S.rf
  have hl := lv_entry ([.ref b, .ref b2]) (n := 2) (Nat.le_of_ble_eq_true rfl)
  rw [lg_entry_eq]
  generalize (lg_sl ([.ref b, .ref b2]) ++ List.replicate (2 - (lg_sl ([.ref b, .ref b2])).length) Slot.unset).toArray = ls at hl ⊢
  have hl : lv_has ls 2 [(0, .ref b), (1, .ref b2)] := hl
  refine lv_aload_n hx hb dX4_copyFrom_0 rfl (lv_at hl 0 rfl) ?_
  refine lv_aload_n hx hb dX4_copyFrom_1 rfl (lv_at hl 1 rfl) ?_
  refine t_g_through S hin4 hK hT2 (hts (.fieldLink RX4 15 "EnergyDiscs$Meter" "through" "I") (by decide +kernel)) dX4_copyFrom_2 ?_
  refine t_p_through S hin4 hK hT hS (rfl) (hts (.fieldLink RX4 15 "EnergyDiscs$Meter" "through" "I") (by decide +kernel)) dX4_copyFrom_5 (fun H locs hT hF hS => ?_)
  have hT2 : tAt D b2 f2 H := tAt_F hT2 hF (hne)
  refine lv_aload_n hx hb dX4_copyFrom_8 rfl (lv_at hl 0 rfl) ?_
  refine lv_aload_n hx hb dX4_copyFrom_9 rfl (lv_at hl 1 rfl) ?_
  refine t_g_place S hin4 hK hT2 (hts (.fieldLink RX4 19 "EnergyDiscs$Meter" "place" "I") (by decide +kernel)) dX4_copyFrom_10 ?_
  refine t_p_place S hin4 hK hT hS (rfl) (hts (.fieldLink RX4 19 "EnergyDiscs$Meter" "place" "I") (by decide +kernel)) dX4_copyFrom_13 (fun H locs hT hF hS => ?_)
  have hT2 : tAt D b2 f2 H := tAt_F hT2 hF (hne)
  refine lv_aload_n hx hb dX4_copyFrom_16 rfl (lv_at hl 0 rfl) ?_
  refine lv_aload_n hx hb dX4_copyFrom_17 rfl (lv_at hl 1 rfl) ?_
  refine t_g_speed S hin4 hK hT2 (hts (.fieldLink RX4 22 "EnergyDiscs$Meter" "speed" "I") (by decide +kernel)) dX4_copyFrom_18 ?_
  refine t_p_speed S hin4 hK hT hS (rfl) (hts (.fieldLink RX4 22 "EnergyDiscs$Meter" "speed" "I") (by decide +kernel)) dX4_copyFrom_21 (fun H locs hT hF hS => ?_)
  have hT2 : tAt D b2 f2 H := tAt_F hT2 hF (hne)
  refine lv_aload_n hx hb dX4_copyFrom_24 rfl (lv_at hl 0 rfl) ?_
  refine lv_aload_n hx hb dX4_copyFrom_25 rfl (lv_at hl 1 rfl) ?_
  refine t_g_age S hin4 hK hT2 (hts (.fieldLink RX4 25 "EnergyDiscs$Meter" "age" "I") (by decide +kernel)) dX4_copyFrom_26 ?_
  refine t_p_age S hin4 hK hT hS (rfl) (hts (.fieldLink RX4 25 "EnergyDiscs$Meter" "age" "I") (by decide +kernel)) dX4_copyFrom_29 (fun H locs hT hF hS => ?_)
  have hT2 : tAt D b2 f2 H := tAt_F hT2 hF (hne)
  refine lv_aload_n hx hb dX4_copyFrom_32 rfl (lv_at hl 0 rfl) ?_
  refine lv_aload_n hx hb dX4_copyFrom_33 rfl (lv_at hl 1 rfl) ?_
  refine t_g_dayTurns S hin4 hK hT2 (hts (.fieldLink RX4 28 "EnergyDiscs$Meter" "dayTurns" "I") (by decide +kernel)) dX4_copyFrom_34 ?_
  refine t_p_dayTurns S hin4 hK hT hS (rfl) (hts (.fieldLink RX4 28 "EnergyDiscs$Meter" "dayTurns" "I") (by decide +kernel)) dX4_copyFrom_37 (fun H locs hT hF hS => ?_)
  have hT2 : tAt D b2 f2 H := tAt_F hT2 hF (hne)
  refine lv_aload_n hx hb dX4_copyFrom_40 rfl (lv_at hl 0 rfl) ?_
  refine lv_aload_n hx hb dX4_copyFrom_41 rfl (lv_at hl 1 rfl) ?_
  refine t_g_nightTurns S hin4 hK hT2 (hts (.fieldLink RX4 31 "EnergyDiscs$Meter" "nightTurns" "I") (by decide +kernel)) dX4_copyFrom_42 ?_
  refine t_p_nightTurns S hin4 hK hT hS (rfl) (hts (.fieldLink RX4 31 "EnergyDiscs$Meter" "nightTurns" "I") (by decide +kernel)) dX4_copyFrom_45 (fun H locs hT hF hS => ?_)
  have hT2 : tAt D b2 f2 H := tAt_F hT2 hF (hne)
  refine lv_aload_n hx hb dX4_copyFrom_48 rfl (lv_at hl 0 rfl) ?_
  refine lv_aload_n hx hb dX4_copyFrom_49 rfl (lv_at hl 1 rfl) ?_
  refine t_g_billedDayTurns S hin4 hK hT2 (hts (.fieldLink RX4 34 "EnergyDiscs$Meter" "billedDayTurns" "I") (by decide +kernel)) dX4_copyFrom_50 ?_
  refine t_p_billedDayTurns S hin4 hK hT hS (rfl) (hts (.fieldLink RX4 34 "EnergyDiscs$Meter" "billedDayTurns" "I") (by decide +kernel)) dX4_copyFrom_53 (fun H locs hT hF hS => ?_)
  have hT2 : tAt D b2 f2 H := tAt_F hT2 hF (hne)
  refine lv_aload_n hx hb dX4_copyFrom_56 rfl (lv_at hl 0 rfl) ?_
  refine lv_aload_n hx hb dX4_copyFrom_57 rfl (lv_at hl 1 rfl) ?_
  refine t_g_billedNightTurns S hin4 hK hT2 (hts (.fieldLink RX4 37 "EnergyDiscs$Meter" "billedNightTurns" "I") (by decide +kernel)) dX4_copyFrom_58 ?_
  refine t_p_billedNightTurns S hin4 hK hT hS (rfl) (hts (.fieldLink RX4 37 "EnergyDiscs$Meter" "billedNightTurns" "I") (by decide +kernel)) dX4_copyFrom_61 (fun H locs hT hF hS => ?_)
  have hT2 : tAt D b2 f2 H := tAt_F hT2 hF (hne)
  refine lv_aload_n hx hb dX4_copyFrom_64 rfl (lv_at hl 0 rfl) ?_
  refine lv_aload_n hx hb dX4_copyFrom_65 rfl (lv_at hl 1 rfl) ?_
  refine t_g_flowed S hin4 hK hT2 (hts (.fieldLink RX4 40 "EnergyDiscs$Meter" "flowed" "J") (by decide +kernel)) dX4_copyFrom_66 ?_
  refine t_p_flowed S hin4 hK hT hS (rfl) (hts (.fieldLink RX4 40 "EnergyDiscs$Meter" "flowed" "J") (by decide +kernel)) dX4_copyFrom_69 (fun H locs hT hF hS => ?_)
  have hT2 : tAt D b2 f2 H := tAt_F hT2 hF (hne)
  refine lv_aload_n hx hb dX4_copyFrom_72 rfl (lv_at hl 0 rfl) ?_
  refine lv_aload_n hx hb dX4_copyFrom_73 rfl (lv_at hl 1 rfl) ?_
  refine t_g_seal S hin4 hK hT2 (hts (.fieldLink RX4 44 "EnergyDiscs$Meter" "seal" "I") (by decide +kernel)) dX4_copyFrom_74 ?_
  refine t_p_seal S hin4 hK hT hS (rfl) (hts (.fieldLink RX4 44 "EnergyDiscs$Meter" "seal" "I") (by decide +kernel)) dX4_copyFrom_77 (fun H locs hT hF hS => ?_)
  have hT2 : tAt D b2 f2 H := tAt_F hT2 hF (hne)
  refine lv_aload_n hx hb dX4_copyFrom_80 rfl (lv_at hl 0 rfl) ?_
  refine lv_aload_n hx hb dX4_copyFrom_81 rfl (lv_at hl 1 rfl) ?_
  refine t_g_broken S hin4 hK hT2 (hts (.fieldLink RX4 47 "EnergyDiscs$Meter" "broken" "Z") (by decide +kernel)) dX4_copyFrom_82 ?_
  refine t_p_broken S hin4 hK hT hS (rfl) (hts (.fieldLink RX4 47 "EnergyDiscs$Meter" "broken" "Z") (by decide +kernel)) (by exact h07) dX4_copyFrom_85 (fun H locs hT hF hS => ?_)
  have hT2 : tAt D b2 f2 H := tAt_F hT2 hF (hne)
  refine lv_aload_n hx hb dX4_copyFrom_88 rfl (lv_at hl 0 rfl) ?_
  refine lv_aload_n hx hb dX4_copyFrom_89 rfl (lv_at hl 1 rfl) ?_
  refine t_g_billed S hin4 hK hT2 (hts (.fieldLink RX4 51 "EnergyDiscs$Meter" "billed" "I") (by decide +kernel)) dX4_copyFrom_90 ?_
  refine t_p_billed S hin4 hK hT hS (rfl) (hts (.fieldLink RX4 51 "EnergyDiscs$Meter" "billed" "I") (by decide +kernel)) dX4_copyFrom_93 (fun H locs hT hF hS => ?_)
  have hT2 : tAt D b2 f2 H := tAt_F hT2 hF (hne)
  refine lv_aload_n hx hb dX4_copyFrom_96 rfl (lv_at hl 0 rfl) ?_
  refine lv_aload_n hx hb dX4_copyFrom_97 rfl (lv_at hl 1 rfl) ?_
  refine t_g_visits S hin4 hK hT2 (hts (.fieldLink RX4 54 "EnergyDiscs$Meter" "visits" "I") (by decide +kernel)) dX4_copyFrom_98 ?_
  refine t_p_visits S hin4 hK hT hS (rfl) (hts (.fieldLink RX4 54 "EnergyDiscs$Meter" "visits" "I") (by decide +kernel)) dX4_copyFrom_101 (fun H locs hT hF hS => ?_)
  have hT2 : tAt D b2 f2 H := tAt_F hT2 hF (hne)
  exact x_vretM hx hb hr hlocks ⟨(tAt_cong hT (by simp [mvL, up])), hT2⟩ hS dX4_copyFrom_104
set_option maxHeartbeats 4000000 in
set_option maxRecDepth 100000 in
theorem c_X4_turns (l : Launch) (D : va_G) (cs : Nat → ClassId) (b : Nat) (f : Int → Int)  : kR D cs l yX4_turns wsX4_turns ({ frames := 0, cells := 0, slots := 0, locals := 0 } : Room) [.ref b] (fun H => tAt D b f H) (some (.int (zI (f 3 + f 4)))) := by
  refine Met.ofW (cc := cX4_turns) (maxL := 1) (ret := (some .int)) (by decide) rfl ?_
  intro p e s m args below meth c s₁ B hml hv
  obtain ⟨rfl, hK, hT⟩ := hv
  have hx := B.exec
  have hb := B.bytes
  have hr := B.returns
  have hts := atoms_spec (ws := wsX4_turns) B.pre
  have hown : s.vm.findClass RX4 = some m.cls := findClass_of_methodNamed B.named
  have hlocks := B.notSynchronized
  have S : CallFix p m c cX4_turns 1 s (([.ref b] : List Value)).toArray wsX4_turns RX4 := ⟨hx, hb, hml, hown, hts⟩
  have hin4 : ∀ w ∈ wsX40, w ∈ wsX4_turns := by decide +kernel
  have hl := lv_entry ([.ref b]) (n := 1) (Nat.le_of_ble_eq_true rfl)
  rw [lg_entry_eq]
  generalize (lg_sl ([.ref b]) ++ List.replicate (1 - (lg_sl ([.ref b])).length) Slot.unset).toArray = ls at hl ⊢
  have hl : lv_has ls 1 [(0, .ref b)] := hl
  refine lv_aload_n hx hb dX4_turns_0 rfl (lv_at hl 0 rfl) ?_
  refine t_g_dayTurns S hin4 hK hT (hts (.fieldLink RX4 28 "EnergyDiscs$Meter" "dayTurns" "I") (by decide +kernel)) dX4_turns_1 ?_
  refine lv_aload_n hx hb dX4_turns_4 rfl (lv_at hl 0 rfl) ?_
  refine t_g_nightTurns S hin4 hK hT (hts (.fieldLink RX4 31 "EnergyDiscs$Meter" "nightTurns" "I") (by decide +kernel)) dX4_turns_5 ?_
  refine x_iadd hx hb dX4_turns_8 ?_
  exact x_iretR hx hb hr hlocks (by first | rfl | omega) rfl dX4_turns_9
set_option maxHeartbeats 4000000 in
set_option maxRecDepth 100000 in
theorem c_X4_unbilledDayTurns (l : Launch) (D : va_G) (cs : Nat → ClassId) (b : Nat) (f : Int → Int)  : kR D cs l yX4_unbilledDayTurns wsX4_unbilledDayTurns ({ frames := 0, cells := 0, slots := 0, locals := 0 } : Room) [.ref b] (fun H => tAt D b f H) (some (.int (zI (f 3 - f 11)))) := by
  refine Met.ofW (cc := cX4_unbilledDayTurns) (maxL := 1) (ret := (some .int)) (by decide) rfl ?_
  intro p e s m args below meth c s₁ B hml hv
  obtain ⟨rfl, hK, hT⟩ := hv
  have hx := B.exec
  have hb := B.bytes
  have hr := B.returns
  have hts := atoms_spec (ws := wsX4_unbilledDayTurns) B.pre
  have hown : s.vm.findClass RX4 = some m.cls := findClass_of_methodNamed B.named
  have hlocks := B.notSynchronized
  have S : CallFix p m c cX4_unbilledDayTurns 1 s (([.ref b] : List Value)).toArray wsX4_unbilledDayTurns RX4 := ⟨hx, hb, hml, hown, hts⟩
  have hin4 : ∀ w ∈ wsX40, w ∈ wsX4_unbilledDayTurns := by decide +kernel
  have hl := lv_entry ([.ref b]) (n := 1) (Nat.le_of_ble_eq_true rfl)
  rw [lg_entry_eq]
  generalize (lg_sl ([.ref b]) ++ List.replicate (1 - (lg_sl ([.ref b])).length) Slot.unset).toArray = ls at hl ⊢
  have hl : lv_has ls 1 [(0, .ref b)] := hl
  refine lv_aload_n hx hb dX4_unbilledDayTurns_0 rfl (lv_at hl 0 rfl) ?_
  refine t_g_dayTurns S hin4 hK hT (hts (.fieldLink RX4 28 "EnergyDiscs$Meter" "dayTurns" "I") (by decide +kernel)) dX4_unbilledDayTurns_1 ?_
  refine lv_aload_n hx hb dX4_unbilledDayTurns_4 rfl (lv_at hl 0 rfl) ?_
  refine t_g_billedDayTurns S hin4 hK hT (hts (.fieldLink RX4 34 "EnergyDiscs$Meter" "billedDayTurns" "I") (by decide +kernel)) dX4_unbilledDayTurns_5 ?_
  refine x_isub hx hb dX4_unbilledDayTurns_8 ?_
  exact x_iretR hx hb hr hlocks (by first | rfl | omega) rfl dX4_unbilledDayTurns_9
set_option maxHeartbeats 4000000 in
set_option maxRecDepth 100000 in
theorem c_X4_unbilledNightTurns (l : Launch) (D : va_G) (cs : Nat → ClassId) (b : Nat) (f : Int → Int)  : kR D cs l yX4_unbilledNightTurns wsX4_unbilledNightTurns ({ frames := 0, cells := 0, slots := 0, locals := 0 } : Room) [.ref b] (fun H => tAt D b f H) (some (.int (zI (f 4 - f 12)))) := by
  refine Met.ofW (cc := cX4_unbilledNightTurns) (maxL := 1) (ret := (some .int)) (by decide) rfl ?_
  intro p e s m args below meth c s₁ B hml hv
  obtain ⟨rfl, hK, hT⟩ := hv
  have hx := B.exec
  have hb := B.bytes
  have hr := B.returns
  have hts := atoms_spec (ws := wsX4_unbilledNightTurns) B.pre
  have hown : s.vm.findClass RX4 = some m.cls := findClass_of_methodNamed B.named
  have hlocks := B.notSynchronized
  have S : CallFix p m c cX4_unbilledNightTurns 1 s (([.ref b] : List Value)).toArray wsX4_unbilledNightTurns RX4 := ⟨hx, hb, hml, hown, hts⟩
  have hin4 : ∀ w ∈ wsX40, w ∈ wsX4_unbilledNightTurns := by decide +kernel
  have hl := lv_entry ([.ref b]) (n := 1) (Nat.le_of_ble_eq_true rfl)
  rw [lg_entry_eq]
  generalize (lg_sl ([.ref b]) ++ List.replicate (1 - (lg_sl ([.ref b])).length) Slot.unset).toArray = ls at hl ⊢
  have hl : lv_has ls 1 [(0, .ref b)] := hl
  refine lv_aload_n hx hb dX4_unbilledNightTurns_0 rfl (lv_at hl 0 rfl) ?_
  refine t_g_nightTurns S hin4 hK hT (hts (.fieldLink RX4 31 "EnergyDiscs$Meter" "nightTurns" "I") (by decide +kernel)) dX4_unbilledNightTurns_1 ?_
  refine lv_aload_n hx hb dX4_unbilledNightTurns_4 rfl (lv_at hl 0 rfl) ?_
  refine t_g_billedNightTurns S hin4 hK hT (hts (.fieldLink RX4 37 "EnergyDiscs$Meter" "billedNightTurns" "I") (by decide +kernel)) dX4_unbilledNightTurns_5 ?_
  refine x_isub hx hb dX4_unbilledNightTurns_8 ?_
  exact x_iretR hx hb hr hlocks (by first | rfl | omega) rfl dX4_unbilledNightTurns_9
set_option maxHeartbeats 4000000 in
set_option maxRecDepth 100000 in
theorem c_X4_missed (l : Launch) (D : va_G) (cs : Nat → ClassId) (b : Nat) (f : Int → Int) (h1 : -2147483648 ≤ f 3 + f 4 ∧ f 3 + f 4 < 2147483648) (h2 : 0 ≤ f 1 ∧ f 1 < 6000) : kR D cs l yX4_missed wsX4_missed ({ frames := 1, cells := 0, slots := 0, locals := 20 } : Room) [.ref b] (fun H => tAt D b f H) (some (.long (zL (msM f)))) := by
  refine Met.ofW (cc := cX4_missed) (maxL := 1) (ret := (some .long)) (by decide) rfl ?_
  intro p e s m args below meth c s₁ B hml hv
  obtain ⟨rfl, hK, hT⟩ := hv
  have hx := B.exec
  have hb := B.bytes
  have hr := B.returns
  have hts := atoms_spec (ws := wsX4_missed) B.pre
  have hown : s.vm.findClass RX4 = some m.cls := findClass_of_methodNamed B.named
  have hlocks := B.notSynchronized
  have S : CallFix p m c cX4_missed 1 s (([.ref b] : List Value)).toArray wsX4_missed RX4 := ⟨hx, hb, hml, hown, hts⟩
  have hin4 : ∀ w ∈ wsX40, w ∈ wsX4_missed := by decide +kernel
  have hl := lv_entry ([.ref b]) (n := 1) (Nat.le_of_ble_eq_true rfl)
  rw [lg_entry_eq]
  generalize (lg_sl ([.ref b]) ++ List.replicate (1 - (lg_sl ([.ref b])).length) Slot.unset).toArray = ls at hl ⊢
  have hl : lv_has ls 1 [(0, .ref b)] := hl
  refine lv_aload_n hx hb dX4_missed_0 rfl (lv_at hl 0 rfl) ?_
  refine t_g_flowed S hin4 hK hT (hts (.fieldLink RX4 40 "EnergyDiscs$Meter" "flowed" "J") (by decide +kernel)) dX4_missed_1 ?_
  refine x_ldc2 (v := 6000) hx hb hown (hts (.constantLong RX4 57 (zL 6000)) (by decide +kernel)) dX4_missed_4 ?_
  refine lv_aload_n hx hb dX4_missed_7 rfl (lv_at hl 0 rfl) ?_
  refine x_callVR (As := []) (rest := [.long (zL 6000), .long (zL (f 5))]) S hK (c_X4_turns l D cs b f ) (cwV 0 hts gX4_missed_X4_turns rfl rfl rfl (by decide +kernel) ⟨(Nat.le_of_ble_eq_true rfl), (Nat.le_of_ble_eq_true rfl)⟩) (x_rc hK hT rfl) hT rfl hl.1 (Nat.le_of_ble_eq_true rfl) dX4_missed_8 ⟨Nat.zero_le _, Nat.zero_le _⟩ ?_
  refine x_i2l hx hb (by omega) dX4_missed_11 ?_
  refine x_lmul hx hb dX4_missed_12 ?_
  refine x_lsub hx hb dX4_missed_13 ?_
  refine lv_aload_n hx hb dX4_missed_14 rfl (lv_at hl 0 rfl) ?_
  refine t_g_place S hin4 hK hT (hts (.fieldLink RX4 19 "EnergyDiscs$Meter" "place" "I") (by decide +kernel)) dX4_missed_15 ?_
  refine x_i2l hx hb (by omega) dX4_missed_18 ?_
  refine x_lsub hx hb dX4_missed_19 ?_
  exact x_lretR hx hb hr hlocks (by first | rfl | omega) rfl dX4_missed_20
set_option maxHeartbeats 4000000 in
set_option maxRecDepth 100000 in
theorem c_X4_minutesToAge (l : Launch) (D : va_G) (cs : Nat → ClassId) (b : Nat) (f : Int → Int) (k : Int) (hk : 0 ≤ k ∧ k ≤ 5000) (h9 : 0 ≤ f 9 ∧ f 9 ≤ 5000) : kR D cs l yX4_minutesToAge wsX4_minutesToAge ({ frames := 1, cells := 0, slots := 0, locals := 21 } : Room) [.ref b, .int (zI k)] (fun H => tAt D b f H) (some (.int (zI (max 1 (k - f 9))))) := by
  refine Met.ofW (cc := cX4_minutesToAge) (maxL := 2) (ret := (some .int)) (by decide) rfl ?_
  intro p e s m args below meth c s₁ B hml hv
  obtain ⟨rfl, hK, hT⟩ := hv
  have hx := B.exec
  have hb := B.bytes
  have hr := B.returns
  have hts := atoms_spec (ws := wsX4_minutesToAge) B.pre
  have hown : s.vm.findClass RX4 = some m.cls := findClass_of_methodNamed B.named
  have hlocks := B.notSynchronized
  have S : CallFix p m c cX4_minutesToAge 2 s (([.ref b, .int (zI k)] : List Value)).toArray wsX4_minutesToAge RX4 := ⟨hx, hb, hml, hown, hts⟩
  have hin4 : ∀ w ∈ wsX40, w ∈ wsX4_minutesToAge := by decide +kernel
  have hl := lv_entry ([.ref b, .int (zI k)]) (n := 2) (Nat.le_of_ble_eq_true rfl)
  rw [lg_entry_eq]
  generalize (lg_sl ([.ref b, .int (zI k)]) ++ List.replicate (2 - (lg_sl ([.ref b, .int (zI k)])).length) Slot.unset).toArray = ls at hl ⊢
  have hl : lv_has ls 2 [(0, .ref b), (1, .int (zI k))] := hl
  refine x_iconst hx hb dX4_minutesToAge_0 ?_
  refine lv_iload_n hx hb dX4_minutesToAge_1 rfl (lv_at hl 1 rfl) ?_
  refine lv_aload_n hx hb dX4_minutesToAge_2 rfl (lv_at hl 0 rfl) ?_
  refine t_g_age S hin4 hK hT (hts (.fieldLink RX4 25 "EnergyDiscs$Meter" "age" "I") (by decide +kernel)) dX4_minutesToAge_3 ?_
  refine x_isub hx hb dX4_minutesToAge_6 ?_
  refine x_mmax S (by omega) (by omega) (hts (.methodLink RX4 67 Lib.Math.max.name) (by decide +kernel)) (hts (.static Lib.Math.max.name) (by decide +kernel)) (hts (.initialized "java/lang/Math") (by decide +kernel)) (hts (.code Lib.Math.max.name Lib.Math.max.code 2 (some .int)) (by decide +kernel)) hl.1 (Nat.le_of_ble_eq_true rfl) (Nat.le_of_ble_eq_true rfl) dX4_minutesToAge_7 (Nat.zero_le _) (Nat.zero_le _) ?_
  exact x_iretR hx hb hr hlocks (by first | rfl | omega) rfl dX4_minutesToAge_10
set_option maxHeartbeats 4000000 in
set_option maxRecDepth 100000 in
theorem c_X4_minutesToWeaken (l : Launch) (D : va_G) (cs : Nat → ClassId) (b : Nat) (f : Int → Int) (k : Int) (hk : 0 ≤ k ∧ k ≤ 5000) (h9 : 0 ≤ f 9 ∧ f 9 ≤ 5000) (h2 : 100 ≤ f 2 ∧ f 2 ≤ 160) : kR D cs l yX4_minutesToWeaken wsX4_minutesToWeaken ({ frames := 2, cells := 0, slots := 0, locals := 42 } : Room) [.ref b, .int (zI k)] (fun H => tAt D b f H) (some (.int (zI (if f 2 < 160 then max 1 (k - f 9) else -6)))) := by
  refine Met.ofW (cc := cX4_minutesToWeaken) (maxL := 2) (ret := (some .int)) (by decide) rfl ?_
  intro p e s m args below meth c s₁ B hml hv
  obtain ⟨rfl, hK, hT⟩ := hv
  have hx := B.exec
  have hb := B.bytes
  have hr := B.returns
  have hts := atoms_spec (ws := wsX4_minutesToWeaken) B.pre
  have hown : s.vm.findClass RX4 = some m.cls := findClass_of_methodNamed B.named
  have hlocks := B.notSynchronized
  have S : CallFix p m c cX4_minutesToWeaken 2 s (([.ref b, .int (zI k)] : List Value)).toArray wsX4_minutesToWeaken RX4 := ⟨hx, hb, hml, hown, hts⟩
  have hin4 : ∀ w ∈ wsX40, w ∈ wsX4_minutesToWeaken := by decide +kernel
  have hl := lv_entry ([.ref b, .int (zI k)]) (n := 2) (Nat.le_of_ble_eq_true rfl)
  rw [lg_entry_eq]
  generalize (lg_sl ([.ref b, .int (zI k)]) ++ List.replicate (2 - (lg_sl ([.ref b, .int (zI k)])).length) Slot.unset).toArray = ls at hl ⊢
  have hl : lv_has ls 2 [(0, .ref b), (1, .int (zI k))] := hl
  refine lv_aload_n hx hb dX4_minutesToWeaken_0 rfl (lv_at hl 0 rfl) ?_
  refine t_g_speed S hin4 hK hT (hts (.fieldLink RX4 22 "EnergyDiscs$Meter" "speed" "I") (by decide +kernel)) dX4_minutesToWeaken_1 ?_
  refine x_sipush hx hb dX4_minutesToWeaken_4 (by decide +kernel) ?_
  refine x_icmp_lt (tgt := 15) hx hb dX4_minutesToWeaken_7 (by decide) (by omega) (by omega) (fun c_7 => ?_) (fun c_7 => ?_)
  · refine lv_aload_n hx hb dX4_minutesToWeaken_15 rfl (lv_at hl 0 rfl) ?_
    refine lv_iload_n hx hb dX4_minutesToWeaken_16 rfl (lv_at hl 1 rfl) ?_
    refine x_callVR (As := [.int (zI k)]) (rest := []) S hK (c_X4_minutesToAge l D cs b f k (by omega) (by omega)) (cwV 1 hts gX4_minutesToWeaken_X4_minutesToAge rfl rfl rfl (by decide +kernel) ⟨(Nat.le_of_ble_eq_true rfl), (Nat.le_of_ble_eq_true rfl)⟩) (x_rc hK hT rfl) hT rfl hl.1 (Nat.le_of_ble_eq_true rfl) dX4_minutesToWeaken_17 ⟨Nat.zero_le _, Nat.zero_le _⟩ ?_
    exact x_iretR hx hb hr hlocks (by first | (rw [if_pos (by omega)]) | (rw [if_neg (by omega)])) rfl dX4_minutesToWeaken_20
  · refine x_bipush hx hb dX4_minutesToWeaken_10 (by decide +kernel) ?_
    refine lv_goto (tgt := 20) hx hb dX4_minutesToWeaken_12 (by decide) ?_
    exact x_iretR hx hb hr hlocks (by first | (rw [if_pos (by omega)]) | (rw [if_neg (by omega)])) rfl dX4_minutesToWeaken_20
set_option maxHeartbeats 4000000 in
set_option maxRecDepth 100000 in
theorem c_X4_wayIn (l : Launch) (D : va_G) (cs : Nat → ClassId) (b : Nat) (f : Int → Int) (g : Nat) (st : Int → Int) (n0 : Int) (pw : Int) (hf : rOK f) (hq : qOK st) (hn : 1 ≤ n0 ∧ n0 ≤ 5000) (hp : 0 ≤ pw ∧ pw ≤ 48000) : kR D cs l yX4_wayIn wsX4_wayIn ({ frames := 1, cells := 0, slots := 0, locals := 21 } : Room) [.ref b, .int (zI n0), .int (zI pw), .ref g] (fun H => tAt D b f H ∧ gAt cs g st H) (some (.int (zI (wayS f st n0 pw)))) := by
  refine Met.ofW (cc := cX4_wayIn) (maxL := 5) (ret := (some .int)) (by decide) rfl ?_
  intro p e s m args below meth c s₁ B hml hv
  obtain ⟨rfl, hK, hT, hG⟩ := hv
  have hx := B.exec
  have hb := B.bytes
  have hr := B.returns
  have hts := atoms_spec (ws := wsX4_wayIn) B.pre
  have hown : s.vm.findClass RX4 = some m.cls := findClass_of_methodNamed B.named
  have hlocks := B.notSynchronized
  have S : CallFix p m c cX4_wayIn 5 s (([.ref b, .int (zI n0), .int (zI pw), .ref g] : List Value)).toArray wsX4_wayIn RX4 := ⟨hx, hb, hml, hown, hts⟩
  have hin4 : ∀ w ∈ wsX40, w ∈ wsX4_wayIn := by decide +kernel
  have hl := lv_entry ([.ref b, .int (zI n0), .int (zI pw), .ref g]) (n := 5) (Nat.le_of_ble_eq_true rfl)
  rw [lg_entry_eq]
  generalize (lg_sl ([.ref b, .int (zI n0), .int (zI pw), .ref g]) ++ List.replicate (5 - (lg_sl ([.ref b, .int (zI n0), .int (zI pw), .ref g])).length) Slot.unset).toArray = ls at hl ⊢
  have hl : lv_has ls 5 [(0, .ref b), (1, .int (zI n0)), (2, .int (zI pw)), (3, .ref g)] := hl
  obtain ⟨⟨f1, f2⟩, ⟨f3, f4⟩, f5, f6⟩ := hf
  obtain ⟨s0, ⟨s1, s2⟩, s3, s4⟩ := hq
  have hm : 0 ≤ pw * f 2 ∧ pw * f 2 ≤ 48000 * 160 := ⟨Int.mul_nonneg hp.1 (by omega), Int.mul_le_mul hp.2 f4 (by omega) (by omega)⟩
  have hc : 0 ≤ n0 * st 1 ∧ n0 * st 1 ≤ 5000 * 9 := ⟨Int.mul_nonneg (by omega) s1, Int.mul_le_mul hn.2 s2 s1 (by omega)⟩
  refine lv_iload_n hx hb dX4_wayIn_0 rfl (lv_at hl 2 rfl) ?_
  refine lv_aload_n hx hb dX4_wayIn_1 rfl (lv_at hl 3 rfl) ?_
  refine x_iconst hx hb dX4_wayIn_2 ?_
  refine g_ld S hK hG (by omega) dX4_wayIn_3 ?_
  refine x_icmp_le (tgt := 37) hx hb dX4_wayIn_4 (by decide) (by omega) (by omega) (fun c_4 => ?_) (fun c_4 => ?_)
  · refine lv_iload_n hx hb dX4_wayIn_37 rfl (lv_at hl 2 rfl) ?_
    refine x_if_gt (tgt := 48) hx hb dX4_wayIn_38 (by decide) (by omega) (fun c_38 => ?_) (fun c_38 => ?_)
    · refine x_iconst hx hb dX4_wayIn_48 ?_
      exact x_iretR hx hb hr hlocks (by unfold wayS; repeat (first | rw [if_pos (by omega)] | rw [if_neg (by omega)])) rfl dX4_wayIn_49
    · refine lv_aload_n hx hb dX4_wayIn_41 rfl (lv_at hl 0 rfl) ?_
      refine t_g_broken S hin4 hK hT (hts (.fieldLink RX4 47 "EnergyDiscs$Meter" "broken" "Z") (by decide +kernel)) dX4_wayIn_42 ?_
      refine x_if_eq (tgt := 50) hx hb dX4_wayIn_45 (by decide) (by omega) (fun c_45 => ?_) (fun c_45 => ?_)
      · refine lv_iload_n hx hb dX4_wayIn_50 rfl (lv_at hl 1 rfl) ?_
        refine lv_aload_n hx hb dX4_wayIn_51 rfl (lv_at hl 3 rfl) ?_
        refine x_iconst hx hb dX4_wayIn_52 ?_
        refine g_ld S hK hG (by omega) dX4_wayIn_53 ?_
        refine x_imul hx hb dX4_wayIn_54 ?_
        refine lv_istore (lv' := [(4, .int (zI (n0 * (st 1)))), (0, .ref b), (1, .int (zI n0)), (2, .int (zI pw)), (3, .ref g)]) hx hb dX4_wayIn_55 hl (by decide) rfl (fun ls hl => ?_)
        refine lv_aload_n hx hb dX4_wayIn_57 rfl (lv_at hl 4 rfl) ?_
        refine x_iconst hx hb dX4_wayIn_58 ?_
        refine g_ld S hK hG (by omega) dX4_wayIn_59 ?_
        refine x_if_ne (tgt := 66) hx hb dX4_wayIn_60 (by decide) (by omega) (fun c_60 => ?_) (fun c_60 => ?_)
        · refine lv_aload_n hx hb dX4_wayIn_66 rfl (lv_at hl 1 rfl) ?_
          refine t_g_place S hin4 hK hT (hts (.fieldLink RX4 19 "EnergyDiscs$Meter" "place" "I") (by decide +kernel)) dX4_wayIn_67 ?_
          refine x_if_ne (tgt := 77) hx hb dX4_wayIn_70 (by decide) (by omega) (fun c_70 => ?_) (fun c_70 => ?_)
          · refine lv_iload hx hb dX4_wayIn_77 (lv_at hl 0 rfl) ?_
            refine x_sipush hx hb dX4_wayIn_79 (by decide +kernel) ?_
            refine lv_aload_n hx hb dX4_wayIn_82 rfl (lv_at hl 1 rfl) ?_
            refine t_g_place S hin4 hK hT (hts (.fieldLink RX4 19 "EnergyDiscs$Meter" "place" "I") (by decide +kernel)) dX4_wayIn_83 ?_
            refine x_isub hx hb dX4_wayIn_86 ?_
            refine x_mmin S (by omega) (by omega) (hts (.methodLink RX4 77 Lib.Math.min.name) (by decide +kernel)) (hts (.static Lib.Math.min.name) (by decide +kernel)) (hts (.initialized "java/lang/Math") (by decide +kernel)) (hts (.code Lib.Math.min.name Lib.Math.min.code 2 (some .int)) (by decide +kernel)) hl.1 (Nat.le_of_ble_eq_true rfl) (Nat.le_of_ble_eq_true rfl) dX4_wayIn_87 (Nat.zero_le _) (Nat.zero_le _) ?_
            exact x_iretR hx hb hr hlocks (by unfold wayS; repeat (first | rw [if_pos (by omega)] | rw [if_neg (by omega)])) rfl dX4_wayIn_90
          · refine x_iconst hx hb dX4_wayIn_73 ?_
            refine lv_goto (tgt := 90) hx hb dX4_wayIn_74 (by decide) ?_
            exact x_iretR hx hb hr hlocks (by unfold wayS; repeat (first | rw [if_pos (by omega)] | rw [if_neg (by omega)])) rfl dX4_wayIn_90
        · refine lv_iload hx hb dX4_wayIn_63 (lv_at hl 0 rfl) ?_
          exact x_iretR hx hb hr hlocks (by unfold wayS; repeat (first | rw [if_pos (by omega)] | rw [if_neg (by omega)])) rfl dX4_wayIn_65
      · refine x_iconst hx hb dX4_wayIn_48 ?_
        exact x_iretR hx hb hr hlocks (by unfold wayS; repeat (first | rw [if_pos (by omega)] | rw [if_neg (by omega)])) rfl dX4_wayIn_49
  · refine lv_iload_n hx hb dX4_wayIn_7 rfl (lv_at hl 2 rfl) ?_
    refine lv_aload_n hx hb dX4_wayIn_8 rfl (lv_at hl 0 rfl) ?_
    refine t_g_speed S hin4 hK hT (hts (.fieldLink RX4 22 "EnergyDiscs$Meter" "speed" "I") (by decide +kernel)) dX4_wayIn_9 ?_
    refine x_imul hx hb dX4_wayIn_12 ?_
    refine x_bipush hx hb dX4_wayIn_13 (by decide +kernel) ?_
    refine x_idiv hx hb (by omega) (by omega) dX4_wayIn_15 ?_
    refine lv_istore (lv' := [(4, .int (zI ((pw * (f 2)) / 100))), (0, .ref b), (1, .int (zI n0)), (2, .int (zI pw)), (3, .ref g)]) hx hb dX4_wayIn_16 hl (by decide) rfl (fun ls hl => ?_)
    refine lv_iload_n hx hb dX4_wayIn_18 rfl (lv_at hl 2 rfl) ?_
    refine lv_aload_n hx hb dX4_wayIn_19 rfl (lv_at hl 1 rfl) ?_
    refine t_g_broken S hin4 hK hT (hts (.fieldLink RX4 47 "EnergyDiscs$Meter" "broken" "Z") (by decide +kernel)) dX4_wayIn_20 ?_
    refine x_if_eq (tgt := 33) hx hb dX4_wayIn_23 (by decide) (by omega) (fun c_23 => ?_) (fun c_23 => ?_)
    · refine lv_iload hx hb dX4_wayIn_33 (lv_at hl 0 rfl) ?_
      refine x_imul hx hb dX4_wayIn_35 ?_
      exact x_iretR hx hb hr hlocks (by unfold wayS; repeat (first | rw [if_pos (by omega)] | rw [if_neg (by omega)])) rfl dX4_wayIn_36
    · refine lv_iload hx hb dX4_wayIn_26 (lv_at hl 0 rfl) ?_
      refine x_iconst hx hb dX4_wayIn_28 ?_
      refine x_idiv hx hb (by omega) (by omega) dX4_wayIn_29 ?_
      refine lv_goto (tgt := 35) hx hb dX4_wayIn_30 (by decide) ?_
      refine x_imul hx hb dX4_wayIn_35 ?_
      exact x_iretR hx hb hr hlocks (by unfold wayS; repeat (first | rw [if_pos (by omega)] | rw [if_neg (by omega)])) rfl dX4_wayIn_36
set_option maxHeartbeats 4000000 in
set_option maxRecDepth 100000 in
theorem c_X4_run (l : Launch) (D : va_G) (cs : Nat → ClassId) (b : Nat) (f : Int → Int) (g : Nat) (st : Int → Int) (n0 : Int) (pw : Int) (nt : Int) (hf : rOK f) (hq : qOK st) (hn : 1 ≤ n0 ∧ n0 ≤ 5000) (hp : 0 ≤ pw ∧ pw ≤ 48000) (hnt : nt = 0 ∨ nt = 1) (hbg : g ≠ b) : kM D cs l yX4_run wsX4_run ({ frames := 2, cells := 0, slots := 0, locals := 45 } : Room) [.ref b, .int (zI n0), .int (zI pw), .ref g, .int (zI nt)] (fun H => tAt D b f H ∧ gAt cs g st H) (some (.int (zI (rnT f st n0 pw)))) (fun H => tAt D b (rnM f st n0 pw nt) H ∧ gAt cs g st H) (oneC b) := by
  refine Met.ofW (cc := cX4_run) (maxL := 6) (ret := (some .int)) (by decide) rfl ?_
  intro p e s m args below meth c s₁ B hml hv
  obtain ⟨rfl, hK, hT, hG⟩ := hv
  have hx := B.exec
  have hb := B.bytes
  have hr := B.returns
  have hts := atoms_spec (ws := wsX4_run) B.pre
  have hown : s.vm.findClass RX4 = some m.cls := findClass_of_methodNamed B.named
  have hlocks := B.notSynchronized
  have S : CallFix p m c cX4_run 6 s (([.ref b, .int (zI n0), .int (zI pw), .ref g, .int (zI nt)] : List Value)).toArray wsX4_run RX4 := ⟨hx, hb, hml, hown, hts⟩
  have hin4 : ∀ w ∈ wsX40, w ∈ wsX4_run := by decide +kernel
  have hS : va_S (oneC b) s.heap s.heap [] := va_S.rf
  have hl := lv_entry ([.ref b, .int (zI n0), .int (zI pw), .ref g, .int (zI nt)]) (n := 6) (Nat.le_of_ble_eq_true rfl)
  rw [lg_entry_eq]
  generalize (lg_sl ([.ref b, .int (zI n0), .int (zI pw), .ref g, .int (zI nt)]) ++ List.replicate (6 - (lg_sl ([.ref b, .int (zI n0), .int (zI pw), .ref g, .int (zI nt)])).length) Slot.unset).toArray = ls at hl ⊢
  have hl : lv_has ls 6 [(0, .ref b), (1, .int (zI n0)), (2, .int (zI pw)), (3, .ref g), (4, .int (zI nt))] := hl
  have hw := wayS_rng (rn1_rOK (n := n0) (pw := pw) hf) hq hn hp
  have h1 : rn1 f n0 pw 1 = f 1 := up_n (by decide)
  have h2 : rn2 f st n0 pw 1 = rn1 f n0 pw 1 + wayS (rn1 f n0 pw) st n0 pw := up_s _ _ _
  have hf1 := hf.1
  have hf9 := hf.2.2.1
  have hf2 := hf.2.1
  have hq3 := hq.2.2.2
  refine lv_aload_n hx hb dX4_run_0 rfl (lv_at hl 0 rfl) ?_
  refine lv_dup hx hb dX4_run_1 rfl ?_
  refine t_g_flowed S hin4 hK hT (hts (.fieldLink RX4 40 "EnergyDiscs$Meter" "flowed" "J") (by decide +kernel)) dX4_run_2 ?_
  refine lv_iload_n hx hb dX4_run_5 rfl (lv_at hl 2 rfl) ?_
  refine x_i2l hx hb (by omega) dX4_run_6 ?_
  refine lv_iload_n hx hb dX4_run_7 rfl (lv_at hl 1 rfl) ?_
  refine x_i2l hx hb (by omega) dX4_run_8 ?_
  refine x_lmul hx hb dX4_run_9 ?_
  refine x_ladd hx hb dX4_run_10 ?_
  refine t_p_flowed S hin4 hK hT hS (rfl) (hts (.fieldLink RX4 40 "EnergyDiscs$Meter" "flowed" "J") (by decide +kernel)) dX4_run_11 (fun H locs hT hF hS => ?_)
  have hG : gAt cs g st H := gAt_F hG hF (hbg)
  have hT : tAt D b (rn1 f n0 pw) H := hT
  refine lv_aload_n hx hb dX4_run_14 rfl (lv_at hl 0 rfl) ?_
  refine lv_dup hx hb dX4_run_15 rfl ?_
  refine t_g_place S hin4 hK hT (hts (.fieldLink RX4 19 "EnergyDiscs$Meter" "place" "I") (by decide +kernel)) dX4_run_16 ?_
  refine lv_aload_n hx hb dX4_run_19 rfl (lv_at hl 0 rfl) ?_
  refine lv_iload_n hx hb dX4_run_20 rfl (lv_at hl 1 rfl) ?_
  refine lv_iload_n hx hb dX4_run_21 rfl (lv_at hl 2 rfl) ?_
  refine lv_aload_n hx hb dX4_run_22 rfl (lv_at hl 3 rfl) ?_
  refine x_callVR (As := [.int (zI n0), .int (zI pw), .ref g]) (rest := [.int (zI ((rn1 f n0 pw) 1)), .ref b]) S hK (c_X4_wayIn l D cs b (rn1 f n0 pw) g st n0 pw (by exact rn1_rOK hf) (by exact hq) (by omega) (by omega)) (cwV 3 hts gX4_run_X4_wayIn rfl rfl rfl (by decide +kernel) ⟨(Nat.le_of_ble_eq_true rfl), (Nat.le_of_ble_eq_true rfl)⟩) (x_rc hK hT rfl) ⟨hT, hG⟩ rfl hl.1 (Nat.le_of_ble_eq_true rfl) dX4_run_23 ⟨Nat.zero_le _, Nat.zero_le _⟩ ?_
  refine x_iadd hx hb dX4_run_26 ?_
  refine t_p_place S hin4 hK hT hS (rfl) (hts (.fieldLink RX4 19 "EnergyDiscs$Meter" "place" "I") (by decide +kernel)) dX4_run_27 (fun H locs hT hF hS => ?_)
  have hG : gAt cs g st H := gAt_F hG hF (hbg)
  have hT : tAt D b (rn2 f st n0 pw) H := hT
  refine lv_aload_n hx hb dX4_run_30 rfl (lv_at hl 0 rfl) ?_
  refine t_g_place S hin4 hK hT (hts (.fieldLink RX4 19 "EnergyDiscs$Meter" "place" "I") (by decide +kernel)) dX4_run_31 ?_
  refine x_sipush hx hb dX4_run_34 (by decide +kernel) ?_
  refine x_idiv hx hb (by omega) (by omega) dX4_run_37 ?_
  refine lv_istore (lv' := [(5, .int (zI (rnT f st n0 pw))), (0, .ref b), (1, .int (zI n0)), (2, .int (zI pw)), (3, .ref g), (4, .int (zI nt))]) hx hb dX4_run_38 hl (by decide) rfl (fun ls hl => ?_)
  refine lv_aload_n hx hb dX4_run_40 rfl (lv_at hl 1 rfl) ?_
  refine lv_dup hx hb dX4_run_41 rfl ?_
  refine t_g_place S hin4 hK hT (hts (.fieldLink RX4 19 "EnergyDiscs$Meter" "place" "I") (by decide +kernel)) dX4_run_42 ?_
  refine lv_iload hx hb dX4_run_45 (lv_at hl 0 rfl) ?_
  refine x_sipush hx hb dX4_run_47 (by decide +kernel) ?_
  refine x_imul hx hb dX4_run_50 ?_
  refine x_isub hx hb dX4_run_51 ?_
  refine t_p_place S hin4 hK hT hS (rfl) (hts (.fieldLink RX4 19 "EnergyDiscs$Meter" "place" "I") (by decide +kernel)) dX4_run_52 (fun H locs hT hF hS => ?_)
  have hG : gAt cs g st H := gAt_F hG hF (hbg)
  have hT : tAt D b (rn3 f st n0 pw) H := hT
  refine lv_iload hx hb dX4_run_55 (lv_at hl 5 rfl) ?_
  refine x_if_eq (tgt := 74) hx hb dX4_run_57 (by decide) (by omega) (fun c_57 => ?_) (fun c_57 => ?_)
  · refine lv_aload_n hx hb dX4_run_74 rfl (lv_at hl 1 rfl) ?_
    refine lv_dup hx hb dX4_run_75 rfl ?_
    refine t_g_dayTurns S hin4 hK hT (hts (.fieldLink RX4 28 "EnergyDiscs$Meter" "dayTurns" "I") (by decide +kernel)) dX4_run_76 ?_
    refine lv_iload hx hb dX4_run_79 (lv_at hl 0 rfl) ?_
    refine x_iadd hx hb dX4_run_81 ?_
    refine t_p_dayTurns S hin4 hK hT hS (rfl) (hts (.fieldLink RX4 28 "EnergyDiscs$Meter" "dayTurns" "I") (by decide +kernel)) dX4_run_82 (fun H locs hT hF hS => ?_)
    have hG : gAt cs g st H := gAt_F hG hF (hbg)
    have hT : tAt D b (rn4 f st n0 pw nt) H := tAt_cong hT (by unfold rn4; first | rw [if_pos (by omega)] | rw [if_neg (by omega)])
    refine lv_aload_n hx hb dX4_run_85 rfl (lv_at hl 1 rfl) ?_
    refine lv_dup hx hb dX4_run_86 rfl ?_
    refine t_g_age S hin4 hK hT (hts (.fieldLink RX4 25 "EnergyDiscs$Meter" "age" "I") (by decide +kernel)) dX4_run_87 ?_
    refine lv_iload_n hx hb dX4_run_90 rfl (lv_at hl 2 rfl) ?_
    refine x_iadd hx hb dX4_run_91 ?_
    refine t_p_age S hin4 hK hT hS (rfl) (hts (.fieldLink RX4 25 "EnergyDiscs$Meter" "age" "I") (by decide +kernel)) dX4_run_92 (fun H locs hT hF hS => ?_)
    have hG : gAt cs g st H := gAt_F hG hF (hbg)
    have hT : tAt D b (rn5 f st n0 pw nt) H := hT
    have e9 := rn5_9 (f := f) (st := st) (n := n0) (pw := pw) (nt := nt)
    refine lv_aload_n hx hb dX4_run_95 rfl (lv_at hl 1 rfl) ?_
    refine t_g_age S hin4 hK hT (hts (.fieldLink RX4 25 "EnergyDiscs$Meter" "age" "I") (by decide +kernel)) dX4_run_96 ?_
    refine lv_aload_n hx hb dX4_run_99 rfl (lv_at hl 4 rfl) ?_
    refine x_iconst hx hb dX4_run_100 ?_
    refine g_ld S hK hG (by omega) dX4_run_101 ?_
    refine x_icmp_lt (tgt := 126) hx hb dX4_run_102 (by decide) (by omega) (by omega) (fun c_102 => ?_) (fun c_102 => ?_)
    · refine lv_iload hx hb dX4_run_126 (lv_at hl 0 rfl) ?_
      exact x_iretM hx hb hr hlocks (by first | rfl | omega) ⟨(tAt_cong hT (by congr 1; unfold rnM; first | rw [if_pos (by omega)] | rw [if_neg (by omega)])), hG⟩ hS dX4_run_128
    · refine lv_aload_n hx hb dX4_run_105 rfl (lv_at hl 1 rfl) ?_
      refine x_iconst hx hb dX4_run_106 ?_
      refine t_p_age S hin4 hK hT hS (rfl) (hts (.fieldLink RX4 25 "EnergyDiscs$Meter" "age" "I") (by decide +kernel)) dX4_run_107 (fun H locs hT hF hS => ?_)
      have hG : gAt cs g st H := gAt_F hG hF (hbg)
      have hT : tAt D b (rn6 f st n0 pw nt) H := hT
      have e2 := rn6_2 (f := f) (st := st) (n := n0) (pw := pw) (nt := nt)
      refine lv_aload_n hx hb dX4_run_110 rfl (lv_at hl 1 rfl) ?_
      refine x_sipush hx hb dX4_run_111 (by decide +kernel) ?_
      refine lv_aload_n hx hb dX4_run_114 rfl (lv_at hl 1 rfl) ?_
      refine t_g_speed S hin4 hK hT (hts (.fieldLink RX4 22 "EnergyDiscs$Meter" "speed" "I") (by decide +kernel)) dX4_run_115 ?_
      refine x_iconst hx hb dX4_run_118 ?_
      refine x_iadd hx hb dX4_run_119 ?_
      refine x_mmin S (by omega) (by omega) (hts (.methodLink RX4 77 Lib.Math.min.name) (by decide +kernel)) (hts (.static Lib.Math.min.name) (by decide +kernel)) (hts (.initialized "java/lang/Math") (by decide +kernel)) (hts (.code Lib.Math.min.name Lib.Math.min.code 2 (some .int)) (by decide +kernel)) hl.1 (Nat.le_of_ble_eq_true rfl) (Nat.le_of_ble_eq_true rfl) dX4_run_120 (Nat.zero_le _) (Nat.zero_le _) ?_
      refine t_p_speed S hin4 hK hT hS (rfl) (hts (.fieldLink RX4 22 "EnergyDiscs$Meter" "speed" "I") (by decide +kernel)) dX4_run_123 (fun H locs hT hF hS => ?_)
      have hG : gAt cs g st H := gAt_F hG hF (hbg)
      refine lv_iload hx hb dX4_run_126 (lv_at hl 0 rfl) ?_
      exact x_iretM hx hb hr hlocks (by first | rfl | omega) ⟨(tAt_cong hT (by congr 1; unfold rnM; first | rw [if_pos (by omega)] | rw [if_neg (by omega)])), hG⟩ hS dX4_run_128
  · refine lv_aload_n hx hb dX4_run_60 rfl (lv_at hl 1 rfl) ?_
    refine lv_dup hx hb dX4_run_61 rfl ?_
    refine t_g_nightTurns S hin4 hK hT (hts (.fieldLink RX4 31 "EnergyDiscs$Meter" "nightTurns" "I") (by decide +kernel)) dX4_run_62 ?_
    refine lv_iload hx hb dX4_run_65 (lv_at hl 0 rfl) ?_
    refine x_iadd hx hb dX4_run_67 ?_
    refine t_p_nightTurns S hin4 hK hT hS (rfl) (hts (.fieldLink RX4 31 "EnergyDiscs$Meter" "nightTurns" "I") (by decide +kernel)) dX4_run_68 (fun H locs hT hF hS => ?_)
    have hG : gAt cs g st H := gAt_F hG hF (hbg)
    refine lv_goto (tgt := 85) hx hb dX4_run_71 (by decide) ?_
    have hT : tAt D b (rn4 f st n0 pw nt) H := tAt_cong hT (by unfold rn4; first | rw [if_pos (by omega)] | rw [if_neg (by omega)])
    refine lv_aload_n hx hb dX4_run_85 rfl (lv_at hl 1 rfl) ?_
    refine lv_dup hx hb dX4_run_86 rfl ?_
    refine t_g_age S hin4 hK hT (hts (.fieldLink RX4 25 "EnergyDiscs$Meter" "age" "I") (by decide +kernel)) dX4_run_87 ?_
    refine lv_iload_n hx hb dX4_run_90 rfl (lv_at hl 2 rfl) ?_
    refine x_iadd hx hb dX4_run_91 ?_
    refine t_p_age S hin4 hK hT hS (rfl) (hts (.fieldLink RX4 25 "EnergyDiscs$Meter" "age" "I") (by decide +kernel)) dX4_run_92 (fun H locs hT hF hS => ?_)
    have hG : gAt cs g st H := gAt_F hG hF (hbg)
    have hT : tAt D b (rn5 f st n0 pw nt) H := hT
    have e9 := rn5_9 (f := f) (st := st) (n := n0) (pw := pw) (nt := nt)
    refine lv_aload_n hx hb dX4_run_95 rfl (lv_at hl 1 rfl) ?_
    refine t_g_age S hin4 hK hT (hts (.fieldLink RX4 25 "EnergyDiscs$Meter" "age" "I") (by decide +kernel)) dX4_run_96 ?_
    refine lv_aload_n hx hb dX4_run_99 rfl (lv_at hl 4 rfl) ?_
    refine x_iconst hx hb dX4_run_100 ?_
    refine g_ld S hK hG (by omega) dX4_run_101 ?_
    refine x_icmp_lt (tgt := 126) hx hb dX4_run_102 (by decide) (by omega) (by omega) (fun c_102 => ?_) (fun c_102 => ?_)
    · refine lv_iload hx hb dX4_run_126 (lv_at hl 0 rfl) ?_
      exact x_iretM hx hb hr hlocks (by first | rfl | omega) ⟨(tAt_cong hT (by congr 1; unfold rnM; first | rw [if_pos (by omega)] | rw [if_neg (by omega)])), hG⟩ hS dX4_run_128
    · refine lv_aload_n hx hb dX4_run_105 rfl (lv_at hl 1 rfl) ?_
      refine x_iconst hx hb dX4_run_106 ?_
      refine t_p_age S hin4 hK hT hS (rfl) (hts (.fieldLink RX4 25 "EnergyDiscs$Meter" "age" "I") (by decide +kernel)) dX4_run_107 (fun H locs hT hF hS => ?_)
      have hG : gAt cs g st H := gAt_F hG hF (hbg)
      have hT : tAt D b (rn6 f st n0 pw nt) H := hT
      have e2 := rn6_2 (f := f) (st := st) (n := n0) (pw := pw) (nt := nt)
      refine lv_aload_n hx hb dX4_run_110 rfl (lv_at hl 1 rfl) ?_
      refine x_sipush hx hb dX4_run_111 (by decide +kernel) ?_
      refine lv_aload_n hx hb dX4_run_114 rfl (lv_at hl 1 rfl) ?_
      refine t_g_speed S hin4 hK hT (hts (.fieldLink RX4 22 "EnergyDiscs$Meter" "speed" "I") (by decide +kernel)) dX4_run_115 ?_
      refine x_iconst hx hb dX4_run_118 ?_
      refine x_iadd hx hb dX4_run_119 ?_
      refine x_mmin S (by omega) (by omega) (hts (.methodLink RX4 77 Lib.Math.min.name) (by decide +kernel)) (hts (.static Lib.Math.min.name) (by decide +kernel)) (hts (.initialized "java/lang/Math") (by decide +kernel)) (hts (.code Lib.Math.min.name Lib.Math.min.code 2 (some .int)) (by decide +kernel)) hl.1 (Nat.le_of_ble_eq_true rfl) (Nat.le_of_ble_eq_true rfl) dX4_run_120 (Nat.zero_le _) (Nat.zero_le _) ?_
      refine t_p_speed S hin4 hK hT hS (rfl) (hts (.fieldLink RX4 22 "EnergyDiscs$Meter" "speed" "I") (by decide +kernel)) dX4_run_123 (fun H locs hT hF hS => ?_)
      have hG : gAt cs g st H := gAt_F hG hF (hbg)
      refine lv_iload hx hb dX4_run_126 (lv_at hl 0 rfl) ?_
      exact x_iretM hx hb hr hlocks (by first | rfl | omega) ⟨(tAt_cong hT (by congr 1; unfold rnM; first | rw [if_pos (by omega)] | rw [if_neg (by omega)])), hG⟩ hS dX4_run_128
set_option maxHeartbeats 4000000 in
set_option maxRecDepth 100000 in
theorem c_X4_settleBill (l : Launch) (D : va_G) (cs : Nat → ClassId) (b : Nat) (f : Int → Int) (co : Int)  : kM D cs l yX4_settleBill wsX4_settleBill ({ frames := 0, cells := 0, slots := 0, locals := 0 } : Room) [.ref b, .int (zI co)] (fun H => tAt D b f H) none (fun H => tAt D b (stM f co) H) (oneC b) := by
  refine Met.ofW (cc := cX4_settleBill) (maxL := 2) (ret := none) (by decide) rfl ?_
  intro p e s m args below meth c s₁ B hml hv
  obtain ⟨rfl, hK, hT⟩ := hv
  have hx := B.exec
  have hb := B.bytes
  have hr := B.returns
  have hts := atoms_spec (ws := wsX4_settleBill) B.pre
  have hown : s.vm.findClass RX4 = some m.cls := findClass_of_methodNamed B.named
  have hlocks := B.notSynchronized
  have S : CallFix p m c cX4_settleBill 2 s (([.ref b, .int (zI co)] : List Value)).toArray wsX4_settleBill RX4 := ⟨hx, hb, hml, hown, hts⟩
  have hin4 : ∀ w ∈ wsX40, w ∈ wsX4_settleBill := by decide +kernel
  have hS : va_S (oneC b) s.heap s.heap [] := va_S.rf
  have hl := lv_entry ([.ref b, .int (zI co)]) (n := 2) (Nat.le_of_ble_eq_true rfl)
  rw [lg_entry_eq]
  generalize (lg_sl ([.ref b, .int (zI co)]) ++ List.replicate (2 - (lg_sl ([.ref b, .int (zI co)])).length) Slot.unset).toArray = ls at hl ⊢
  have hl : lv_has ls 2 [(0, .ref b), (1, .int (zI co))] := hl
  refine lv_aload_n hx hb dX4_settleBill_0 rfl (lv_at hl 0 rfl) ?_
  refine lv_dup hx hb dX4_settleBill_1 rfl ?_
  refine t_g_billed S hin4 hK hT (hts (.fieldLink RX4 51 "EnergyDiscs$Meter" "billed" "I") (by decide +kernel)) dX4_settleBill_2 ?_
  refine lv_iload_n hx hb dX4_settleBill_5 rfl (lv_at hl 1 rfl) ?_
  refine x_iadd hx hb dX4_settleBill_6 ?_
  refine t_p_billed S hin4 hK hT hS (rfl) (hts (.fieldLink RX4 51 "EnergyDiscs$Meter" "billed" "I") (by decide +kernel)) dX4_settleBill_7 (fun H locs hT hF hS => ?_)
  refine lv_aload_n hx hb dX4_settleBill_10 rfl (lv_at hl 0 rfl) ?_
  refine lv_aload_n hx hb dX4_settleBill_11 rfl (lv_at hl 0 rfl) ?_
  refine t_g_dayTurns S hin4 hK hT (hts (.fieldLink RX4 28 "EnergyDiscs$Meter" "dayTurns" "I") (by decide +kernel)) dX4_settleBill_12 ?_
  refine t_p_billedDayTurns S hin4 hK hT hS (rfl) (hts (.fieldLink RX4 34 "EnergyDiscs$Meter" "billedDayTurns" "I") (by decide +kernel)) dX4_settleBill_15 (fun H locs hT hF hS => ?_)
  refine lv_aload_n hx hb dX4_settleBill_18 rfl (lv_at hl 0 rfl) ?_
  refine lv_aload_n hx hb dX4_settleBill_19 rfl (lv_at hl 0 rfl) ?_
  refine t_g_nightTurns S hin4 hK hT (hts (.fieldLink RX4 31 "EnergyDiscs$Meter" "nightTurns" "I") (by decide +kernel)) dX4_settleBill_20 ?_
  refine t_p_billedNightTurns S hin4 hK hT hS (rfl) (hts (.fieldLink RX4 37 "EnergyDiscs$Meter" "billedNightTurns" "I") (by decide +kernel)) dX4_settleBill_23 (fun H locs hT hF hS => ?_)
  refine lv_aload_n hx hb dX4_settleBill_26 rfl (lv_at hl 0 rfl) ?_
  refine lv_dup hx hb dX4_settleBill_27 rfl ?_
  refine t_g_visits S hin4 hK hT (hts (.fieldLink RX4 54 "EnergyDiscs$Meter" "visits" "I") (by decide +kernel)) dX4_settleBill_28 ?_
  refine x_iconst hx hb dX4_settleBill_31 ?_
  refine x_iadd hx hb dX4_settleBill_32 ?_
  refine t_p_visits S hin4 hK hT hS (rfl) (hts (.fieldLink RX4 54 "EnergyDiscs$Meter" "visits" "I") (by decide +kernel)) dX4_settleBill_33 (fun H locs hT hF hS => ?_)
  refine lv_aload_n hx hb dX4_settleBill_36 rfl (lv_at hl 0 rfl) ?_
  refine x_bipush hx hb dX4_settleBill_37 (by decide +kernel) ?_
  refine t_p_speed S hin4 hK hT hS (rfl) (hts (.fieldLink RX4 22 "EnergyDiscs$Meter" "speed" "I") (by decide +kernel)) dX4_settleBill_39 (fun H locs hT hF hS => ?_)
  refine lv_aload_n hx hb dX4_settleBill_42 rfl (lv_at hl 0 rfl) ?_
  refine x_iconst hx hb dX4_settleBill_43 ?_
  refine t_p_age S hin4 hK hT hS (rfl) (hts (.fieldLink RX4 25 "EnergyDiscs$Meter" "age" "I") (by decide +kernel)) dX4_settleBill_44 (fun H locs hT hF hS => ?_)
  exact x_vretM hx hb hr hlocks (tAt_cong hT (by simp [mvL, up, bgM, stM, mdM])) hS dX4_settleBill_47
set_option maxHeartbeats 4000000 in
set_option maxRecDepth 100000 in
theorem c_X4_mend (l : Launch) (D : va_G) (cs : Nat → ClassId) (b : Nat) (f : Int → Int) (no : Int)  : kM D cs l yX4_mend wsX4_mend ({ frames := 0, cells := 0, slots := 0, locals := 0 } : Room) [.ref b, .int (zI no)] (fun H => tAt D b f H) none (fun H => tAt D b (mdM f no) H) (oneC b) := by
  refine Met.ofW (cc := cX4_mend) (maxL := 2) (ret := none) (by decide) rfl ?_
  intro p e s m args below meth c s₁ B hml hv
  obtain ⟨rfl, hK, hT⟩ := hv
  have hx := B.exec
  have hb := B.bytes
  have hr := B.returns
  have hts := atoms_spec (ws := wsX4_mend) B.pre
  have hown : s.vm.findClass RX4 = some m.cls := findClass_of_methodNamed B.named
  have hlocks := B.notSynchronized
  have S : CallFix p m c cX4_mend 2 s (([.ref b, .int (zI no)] : List Value)).toArray wsX4_mend RX4 := ⟨hx, hb, hml, hown, hts⟩
  have hin4 : ∀ w ∈ wsX40, w ∈ wsX4_mend := by decide +kernel
  have hS : va_S (oneC b) s.heap s.heap [] := va_S.rf
  have hl := lv_entry ([.ref b, .int (zI no)]) (n := 2) (Nat.le_of_ble_eq_true rfl)
  rw [lg_entry_eq]
  generalize (lg_sl ([.ref b, .int (zI no)]) ++ List.replicate (2 - (lg_sl ([.ref b, .int (zI no)])).length) Slot.unset).toArray = ls at hl ⊢
  have hl : lv_has ls 2 [(0, .ref b), (1, .int (zI no))] := hl
  refine lv_aload_n hx hb dX4_mend_0 rfl (lv_at hl 0 rfl) ?_
  refine x_iconst hx hb dX4_mend_1 ?_
  refine t_p_broken S hin4 hK hT hS (rfl) (hts (.fieldLink RX4 47 "EnergyDiscs$Meter" "broken" "Z") (by decide +kernel)) (by exact Or.inl rfl) dX4_mend_2 (fun H locs hT hF hS => ?_)
  refine lv_aload_n hx hb dX4_mend_5 rfl (lv_at hl 0 rfl) ?_
  refine lv_iload_n hx hb dX4_mend_6 rfl (lv_at hl 1 rfl) ?_
  refine t_p_seal S hin4 hK hT hS (rfl) (hts (.fieldLink RX4 44 "EnergyDiscs$Meter" "seal" "I") (by decide +kernel)) dX4_mend_7 (fun H locs hT hF hS => ?_)
  exact x_vretM hx hb hr hlocks (tAt_cong hT (by simp [mvL, up, bgM, stM, mdM])) hS dX4_mend_10
set_option maxHeartbeats 4000000 in
set_option maxRecDepth 100000 in
theorem c_X3_begin (l : Launch) (D : va_G) (cs : Nat → ClassId) (b : Nat) (f : Int → Int) (w : Int) (no : Int)  : kM D cs l yX3_begin wsX3_begin ({ frames := 0, cells := 0, slots := 0, locals := 0 } : Room) [.ref b, .int (zI w), .int (zI no)] (fun H => lAt D b f H) none (fun H => lAt D b (bgL w no) H) (oneC b) := by
  refine Met.ofW (cc := cX3_begin) (maxL := 3) (ret := none) (by decide) rfl ?_
  intro p e s m args below meth c s₁ B hml hv
  obtain ⟨rfl, hK, hO⟩ := hv
  have hx := B.exec
  have hb := B.bytes
  have hr := B.returns
  have hts := atoms_spec (ws := wsX3_begin) B.pre
  have hown : s.vm.findClass RX3 = some m.cls := findClass_of_methodNamed B.named
  have hlocks := B.notSynchronized
  have S : CallFix p m c cX3_begin 3 s (([.ref b, .int (zI w), .int (zI no)] : List Value)).toArray wsX3_begin RX3 := ⟨hx, hb, hml, hown, hts⟩
  have hin3 : ∀ w ∈ wsX30, w ∈ wsX3_begin := by decide +kernel
  have hS : va_S (oneC b) s.heap s.heap [] := va_S.rf
  have hl := lv_entry ([.ref b, .int (zI w), .int (zI no)]) (n := 3) (Nat.le_of_ble_eq_true rfl)
  rw [lg_entry_eq]
  generalize (lg_sl ([.ref b, .int (zI w), .int (zI no)]) ++ List.replicate (3 - (lg_sl ([.ref b, .int (zI w), .int (zI no)])).length) Slot.unset).toArray = ls at hl ⊢
  have hl : lv_has ls 3 [(0, .ref b), (1, .int (zI w)), (2, .int (zI no))] := hl
  refine lv_aload_n hx hb dX3_begin_0 rfl (lv_at hl 0 rfl) ?_
  refine lv_iload_n hx hb dX3_begin_1 rfl (lv_at hl 1 rfl) ?_
  refine l_p_behind S hin3 hK hO hS (rfl) (hts (.fieldLink RX3 13 "EnergyDiscs$Load" "behind" "I") (by decide +kernel)) dX3_begin_2 (fun H locs hO hF hS => ?_)
  refine lv_aload_n hx hb dX3_begin_5 rfl (lv_at hl 0 rfl) ?_
  refine lv_iload_n hx hb dX3_begin_6 rfl (lv_at hl 2 rfl) ?_
  refine l_p_power S hin3 hK hO hS (rfl) (hts (.fieldLink RX3 17 "EnergyDiscs$Load" "power" "I") (by decide +kernel)) dX3_begin_7 (fun H locs hO hF hS => ?_)
  refine lv_aload_n hx hb dX3_begin_10 rfl (lv_at hl 0 rfl) ?_
  refine x_iconst hx hb dX3_begin_11 ?_
  refine l_p_on S hin3 hK hO hS (rfl) (hts (.fieldLink RX3 20 "EnergyDiscs$Load" "on" "Z") (by decide +kernel)) (by exact Or.inl rfl) dX3_begin_12 (fun H locs hO hF hS => ?_)
  exact x_vretM hx hb hr hlocks (lAt_cong hO (by simp [ldL, up, bgL])) hS dX3_begin_15
set_option maxHeartbeats 4000000 in
set_option maxRecDepth 100000 in
theorem c_X3_copyFrom (l : Launch) (D : va_G) (cs : Nat → ClassId) (b : Nat) (f : Int → Int) (b2 : Nat) (f2 : Int → Int) (hne : b2 ≠ b) (h07 : f2 2 = 0 ∨ f2 2 = 1) : kM D cs l yX3_copyFrom wsX3_copyFrom ({ frames := 0, cells := 0, slots := 0, locals := 0 } : Room) [.ref b, .ref b2] (fun H => lAt D b f H ∧ lAt D b2 f2 H) none (fun H => lAt D b f2 H ∧ lAt D b2 f2 H) (oneC b) := by
  refine Met.ofW (cc := cX3_copyFrom) (maxL := 2) (ret := none) (by decide) rfl ?_
  intro p e s m args below meth c s₁ B hml hv
  obtain ⟨rfl, hK, hO, hO2⟩ := hv
  have hx := B.exec
  have hb := B.bytes
  have hr := B.returns
  have hts := atoms_spec (ws := wsX3_copyFrom) B.pre
  have hown : s.vm.findClass RX3 = some m.cls := findClass_of_methodNamed B.named
  have hlocks := B.notSynchronized
  have S : CallFix p m c cX3_copyFrom 2 s (([.ref b, .ref b2] : List Value)).toArray wsX3_copyFrom RX3 := ⟨hx, hb, hml, hown, hts⟩
  have hin3 : ∀ w ∈ wsX30, w ∈ wsX3_copyFrom := by decide +kernel
  have hS : va_S (oneC b) s.heap s.heap [] := va_S.rf
  have hl := lv_entry ([.ref b, .ref b2]) (n := 2) (Nat.le_of_ble_eq_true rfl)
  rw [lg_entry_eq]
  generalize (lg_sl ([.ref b, .ref b2]) ++ List.replicate (2 - (lg_sl ([.ref b, .ref b2])).length) Slot.unset).toArray = ls at hl ⊢
  have hl : lv_has ls 2 [(0, .ref b), (1, .ref b2)] := hl
  refine lv_aload_n hx hb dX3_copyFrom_0 rfl (lv_at hl 0 rfl) ?_
  refine lv_aload_n hx hb dX3_copyFrom_1 rfl (lv_at hl 1 rfl) ?_
  refine l_g_behind S hin3 hK hO2 (hts (.fieldLink RX3 13 "EnergyDiscs$Load" "behind" "I") (by decide +kernel)) dX3_copyFrom_2 ?_
  refine l_p_behind S hin3 hK hO hS (rfl) (hts (.fieldLink RX3 13 "EnergyDiscs$Load" "behind" "I") (by decide +kernel)) dX3_copyFrom_5 (fun H locs hO hF hS => ?_)
  have hO2 : lAt D b2 f2 H := lAt_F hO2 hF (hne)
  refine lv_aload_n hx hb dX3_copyFrom_8 rfl (lv_at hl 0 rfl) ?_
  refine lv_aload_n hx hb dX3_copyFrom_9 rfl (lv_at hl 1 rfl) ?_
  refine l_g_power S hin3 hK hO2 (hts (.fieldLink RX3 17 "EnergyDiscs$Load" "power" "I") (by decide +kernel)) dX3_copyFrom_10 ?_
  refine l_p_power S hin3 hK hO hS (rfl) (hts (.fieldLink RX3 17 "EnergyDiscs$Load" "power" "I") (by decide +kernel)) dX3_copyFrom_13 (fun H locs hO hF hS => ?_)
  have hO2 : lAt D b2 f2 H := lAt_F hO2 hF (hne)
  refine lv_aload_n hx hb dX3_copyFrom_16 rfl (lv_at hl 0 rfl) ?_
  refine lv_aload_n hx hb dX3_copyFrom_17 rfl (lv_at hl 1 rfl) ?_
  refine l_g_on S hin3 hK hO2 (hts (.fieldLink RX3 20 "EnergyDiscs$Load" "on" "Z") (by decide +kernel)) dX3_copyFrom_18 ?_
  refine l_p_on S hin3 hK hO hS (rfl) (hts (.fieldLink RX3 20 "EnergyDiscs$Load" "on" "Z") (by decide +kernel)) (by exact h07) dX3_copyFrom_21 (fun H locs hO hF hS => ?_)
  have hO2 : lAt D b2 f2 H := lAt_F hO2 hF (hne)
  exact x_vretM hx hb hr hlocks ⟨(lAt_cong hO (by simp [ldL, up])), hO2⟩ hS dX3_copyFrom_24
