set_option maxHeartbeats 4000000 in
set_option maxRecDepth 100000 in
theorem c_X0_mayEnd (l : Launch) (D : va_G) (cs : Nat → ClassId) (k : Int) (hk : 0 ≤ k ∧ k ≤ 10) : kR D cs l yX0_mayEnd wsX0_mayEnd ({ frames := 0, cells := 0, slots := 0, locals := 0 } : Room) [.int (zI k)] (fun _ => True) (some (.int (zI (if k = 2 ∨ (6 ≤ k ∧ k ≤ 8) ∨ k = 10 then 1 else 0)))) := by
  refine Met.ofW (cc := cX0_mayEnd) (maxL := 1) (ret := (some .boolean)) (by decide) rfl ?_
  intro p e s m args below meth c s₁ B hml hv
  obtain ⟨rfl, hK, -⟩ := hv
  have hx := B.exec
  have hb := B.bytes
  have hr := B.returns
  have hts := atoms_spec (ws := wsX0_mayEnd) B.pre
  have hown : s.vm.findClass RX0 = some m.cls := findClass_of_methodNamed B.named
  have hlocks := B.notSynchronized
  have S : CallFix p m c cX0_mayEnd 1 s (([.int (zI k)] : List Value)).toArray wsX0_mayEnd RX0 := ⟨hx, hb, hml, hown, hts⟩
  have hl := lv_entry ([.int (zI k)]) (n := 1) (Nat.le_of_ble_eq_true rfl)
  rw [lg_entry_eq]
  generalize (lg_sl ([.int (zI k)]) ++ List.replicate (1 - (lg_sl ([.int (zI k)])).length) Slot.unset).toArray = ls at hl ⊢
  have hl : lv_has ls 1 [(0, .int (zI k))] := hl
  refine lv_iload_n hx hb dX0_mayEnd_0 rfl (lv_at hl 0 rfl) ?_
  by_cases k_1_2 : k = 2
  · refine x_tabIn (k := 2) (off := 51) (tgt := 52) hx hb dX0_mayEnd_1 k_1_2 (by decide) (by decide) (by decide) rfl (by decide) ?_
    refine x_iconst hx hb dX0_mayEnd_52 ?_
    exact x_zretR hx hb hr hlocks (by first | (rw [if_pos (by omega)]) | (rw [if_neg (by omega)])) (by first | decide | exact Or.inl rfl | exact Or.inr rfl | (split <;> simp)) rfl dX0_mayEnd_53
  by_cases k_1_3 : k = 3
  · refine x_tabIn (k := 3) (off := 53) (tgt := 54) hx hb dX0_mayEnd_1 k_1_3 (by decide) (by decide) (by decide) rfl (by decide) ?_
    refine x_iconst hx hb dX0_mayEnd_54 ?_
    exact x_zretR hx hb hr hlocks (by first | (rw [if_pos (by omega)]) | (rw [if_neg (by omega)])) (by first | decide | exact Or.inl rfl | exact Or.inr rfl | (split <;> simp)) rfl dX0_mayEnd_55
  by_cases k_1_4 : k = 4
  · refine x_tabIn (k := 4) (off := 53) (tgt := 54) hx hb dX0_mayEnd_1 k_1_4 (by decide) (by decide) (by decide) rfl (by decide) ?_
    refine x_iconst hx hb dX0_mayEnd_54 ?_
    exact x_zretR hx hb hr hlocks (by first | (rw [if_pos (by omega)]) | (rw [if_neg (by omega)])) (by first | decide | exact Or.inl rfl | exact Or.inr rfl | (split <;> simp)) rfl dX0_mayEnd_55
  by_cases k_1_5 : k = 5
  · refine x_tabIn (k := 5) (off := 53) (tgt := 54) hx hb dX0_mayEnd_1 k_1_5 (by decide) (by decide) (by decide) rfl (by decide) ?_
    refine x_iconst hx hb dX0_mayEnd_54 ?_
    exact x_zretR hx hb hr hlocks (by first | (rw [if_pos (by omega)]) | (rw [if_neg (by omega)])) (by first | decide | exact Or.inl rfl | exact Or.inr rfl | (split <;> simp)) rfl dX0_mayEnd_55
  by_cases k_1_6 : k = 6
  · refine x_tabIn (k := 6) (off := 51) (tgt := 52) hx hb dX0_mayEnd_1 k_1_6 (by decide) (by decide) (by decide) rfl (by decide) ?_
    refine x_iconst hx hb dX0_mayEnd_52 ?_
    exact x_zretR hx hb hr hlocks (by first | (rw [if_pos (by omega)]) | (rw [if_neg (by omega)])) (by first | decide | exact Or.inl rfl | exact Or.inr rfl | (split <;> simp)) rfl dX0_mayEnd_53
  by_cases k_1_7 : k = 7
  · refine x_tabIn (k := 7) (off := 51) (tgt := 52) hx hb dX0_mayEnd_1 k_1_7 (by decide) (by decide) (by decide) rfl (by decide) ?_
    refine x_iconst hx hb dX0_mayEnd_52 ?_
    exact x_zretR hx hb hr hlocks (by first | (rw [if_pos (by omega)]) | (rw [if_neg (by omega)])) (by first | decide | exact Or.inl rfl | exact Or.inr rfl | (split <;> simp)) rfl dX0_mayEnd_53
  by_cases k_1_8 : k = 8
  · refine x_tabIn (k := 8) (off := 51) (tgt := 52) hx hb dX0_mayEnd_1 k_1_8 (by decide) (by decide) (by decide) rfl (by decide) ?_
    refine x_iconst hx hb dX0_mayEnd_52 ?_
    exact x_zretR hx hb hr hlocks (by first | (rw [if_pos (by omega)]) | (rw [if_neg (by omega)])) (by first | decide | exact Or.inl rfl | exact Or.inr rfl | (split <;> simp)) rfl dX0_mayEnd_53
  by_cases k_1_9 : k = 9
  · refine x_tabIn (k := 9) (off := 53) (tgt := 54) hx hb dX0_mayEnd_1 k_1_9 (by decide) (by decide) (by decide) rfl (by decide) ?_
    refine x_iconst hx hb dX0_mayEnd_54 ?_
    exact x_zretR hx hb hr hlocks (by first | (rw [if_pos (by omega)]) | (rw [if_neg (by omega)])) (by first | decide | exact Or.inl rfl | exact Or.inr rfl | (split <;> simp)) rfl dX0_mayEnd_55
  by_cases k_1_10 : k = 10
  · refine x_tabIn (k := 10) (off := 51) (tgt := 52) hx hb dX0_mayEnd_1 k_1_10 (by decide) (by decide) (by decide) rfl (by decide) ?_
    refine x_iconst hx hb dX0_mayEnd_52 ?_
    exact x_zretR hx hb hr hlocks (by first | (rw [if_pos (by omega)]) | (rw [if_neg (by omega)])) (by first | decide | exact Or.inl rfl | exact Or.inr rfl | (split <;> simp)) rfl dX0_mayEnd_53
  refine x_tabOut (tgt := 54) hx hb dX0_mayEnd_1 (by omega) (by omega) (by decide) ?_
  refine x_iconst hx hb dX0_mayEnd_54 ?_
  exact x_zretR hx hb hr hlocks (by first | (rw [if_pos (by omega)]) | (rw [if_neg (by omega)])) (by first | decide | exact Or.inl rfl | exact Or.inr rfl | (split <;> simp)) rfl dX0_mayEnd_55
set_option maxHeartbeats 4000000 in
set_option maxRecDepth 100000 in
theorem c_X0_ifDigit (l : Launch) (D : va_G) (cs : Nat → ClassId) (s0 : Int) (t : Int) (hsr : -1 ≤ s0 ∧ s0 < 65536) : kR D cs l yX0_ifDigit wsX0_ifDigit ({ frames := 0, cells := 0, slots := 0, locals := 0 } : Room) [.int (zI s0), .int (zI t)] (fun _ => True) (some (.int (zI (ifD s0 t)))) := by
  refine Met.ofW (cc := cX0_ifDigit) (maxL := 2) (ret := (some .int)) (by decide) rfl ?_
  intro p e s m args below meth c s₁ B hml hv
  obtain ⟨rfl, hK, -⟩ := hv
  have hx := B.exec
  have hb := B.bytes
  have hr := B.returns
  have hts := atoms_spec (ws := wsX0_ifDigit) B.pre
  have hown : s.vm.findClass RX0 = some m.cls := findClass_of_methodNamed B.named
  have hlocks := B.notSynchronized
  have S : CallFix p m c cX0_ifDigit 2 s (([.int (zI s0), .int (zI t)] : List Value)).toArray wsX0_ifDigit RX0 := ⟨hx, hb, hml, hown, hts⟩
  have hl := lv_entry ([.int (zI s0), .int (zI t)]) (n := 2) (Nat.le_of_ble_eq_true rfl)
  rw [lg_entry_eq]
  generalize (lg_sl ([.int (zI s0), .int (zI t)]) ++ List.replicate (2 - (lg_sl ([.int (zI s0), .int (zI t)])).length) Slot.unset).toArray = ls at hl ⊢
  have hl : lv_has ls 2 [(0, .int (zI s0)), (1, .int (zI t))] := hl
  refine lv_iload_n hx hb dX0_ifDigit_0 rfl (lv_at hl 0 rfl) ?_
  refine x_bipush hx hb dX0_ifDigit_1 (by decide +kernel) ?_
  refine x_icmp_lt (tgt := 16) hx hb dX0_ifDigit_3 (by decide) (by omega) (by omega) (fun c_3 => ?_) (fun c_3 => ?_)
  · refine x_iconst hx hb dX0_ifDigit_16 ?_
    exact x_iretR hx hb hr hlocks (by unfold ifD; repeat (first | rw [if_pos (by omega)] | rw [if_neg (by omega)])) rfl dX0_ifDigit_17
  · refine lv_iload_n hx hb dX0_ifDigit_6 rfl (lv_at hl 0 rfl) ?_
    refine x_bipush hx hb dX0_ifDigit_7 (by decide +kernel) ?_
    refine x_icmp_gt (tgt := 16) hx hb dX0_ifDigit_9 (by decide) (by omega) (by omega) (fun c_9 => ?_) (fun c_9 => ?_)
    · refine x_iconst hx hb dX0_ifDigit_16 ?_
      exact x_iretR hx hb hr hlocks (by unfold ifD; repeat (first | rw [if_pos (by omega)] | rw [if_neg (by omega)])) rfl dX0_ifDigit_17
    · refine lv_iload_n hx hb dX0_ifDigit_12 rfl (lv_at hl 1 rfl) ?_
      refine lv_goto (tgt := 17) hx hb dX0_ifDigit_13 (by decide) ?_
      exact x_iretR hx hb hr hlocks (by unfold ifD; repeat (first | rw [if_pos (by omega)] | rw [if_neg (by omega)])) rfl dX0_ifDigit_17
set_option maxHeartbeats 4000000 in
set_option maxRecDepth 100000 in
theorem c_X0_stateAfterName (l : Launch) (D : va_G) (cs : Nat → ClassId) (s0 : Int) (hsr : -1 ≤ s0 ∧ s0 < 65536) : kR D cs l yX0_stateAfterName wsX0_stateAfterName ({ frames := 0, cells := 0, slots := 0, locals := 0 } : Room) [.int (zI s0)] (fun _ => True) (some (.int (zI (nmA s0)))) := by
  refine Met.ofW (cc := cX0_stateAfterName) (maxL := 1) (ret := (some .int)) (by decide) rfl ?_
  intro p e s m args below meth c s₁ B hml hv
  obtain ⟨rfl, hK, -⟩ := hv
  have hx := B.exec
  have hb := B.bytes
  have hr := B.returns
  have hts := atoms_spec (ws := wsX0_stateAfterName) B.pre
  have hown : s.vm.findClass RX0 = some m.cls := findClass_of_methodNamed B.named
  have hlocks := B.notSynchronized
  have S : CallFix p m c cX0_stateAfterName 1 s (([.int (zI s0)] : List Value)).toArray wsX0_stateAfterName RX0 := ⟨hx, hb, hml, hown, hts⟩
  have hl := lv_entry ([.int (zI s0)]) (n := 1) (Nat.le_of_ble_eq_true rfl)
  rw [lg_entry_eq]
  generalize (lg_sl ([.int (zI s0)]) ++ List.replicate (1 - (lg_sl ([.int (zI s0)])).length) Slot.unset).toArray = ls at hl ⊢
  have hl : lv_has ls 1 [(0, .int (zI s0))] := hl
  refine lv_iload_n hx hb dX0_stateAfterName_0 rfl (lv_at hl 0 rfl) ?_
  by_cases k_1_98 : s0 = 98
  · refine x_look (off := 67) (tgt := 68) hx hb dX0_stateAfterName_1 (by decide) (by rw [k_1_98]; rfl) (by omega) (by decide) ?_
    refine x_bipush hx hb dX0_stateAfterName_68 (by decide +kernel) ?_
    exact x_iretR hx hb hr hlocks (by unfold nmA; repeat (first | rw [if_pos (by omega)] | rw [if_neg (by omega)])) rfl dX0_stateAfterName_70
  by_cases k_1_108 : s0 = 108
  · refine x_look (off := 61) (tgt := 62) hx hb dX0_stateAfterName_1 (by decide) (by rw [k_1_108]; rfl) (by omega) (by decide) ?_
    refine x_iconst hx hb dX0_stateAfterName_62 ?_
    exact x_iretR hx hb hr hlocks (by unfold nmA; repeat (first | rw [if_pos (by omega)] | rw [if_neg (by omega)])) rfl dX0_stateAfterName_63
  by_cases k_1_109 : s0 = 109
  · refine x_look (off := 59) (tgt := 60) hx hb dX0_stateAfterName_1 (by decide) (by rw [k_1_109]; rfl) (by omega) (by decide) ?_
    refine x_iconst hx hb dX0_stateAfterName_60 ?_
    exact x_iretR hx hb hr hlocks (by unfold nmA; repeat (first | rw [if_pos (by omega)] | rw [if_neg (by omega)])) rfl dX0_stateAfterName_61
  by_cases k_1_115 : s0 = 115
  · refine x_look (off := 63) (tgt := 64) hx hb dX0_stateAfterName_1 (by decide) (by rw [k_1_115]; rfl) (by omega) (by decide) ?_
    refine x_iconst hx hb dX0_stateAfterName_64 ?_
    exact x_iretR hx hb hr hlocks (by unfold nmA; repeat (first | rw [if_pos (by omega)] | rw [if_neg (by omega)])) rfl dX0_stateAfterName_65
  by_cases k_1_116 : s0 = 116
  · refine x_look (off := 65) (tgt := 66) hx hb dX0_stateAfterName_1 (by decide) (by rw [k_1_116]; rfl) (by omega) (by decide) ?_
    refine x_iconst hx hb dX0_stateAfterName_66 ?_
    exact x_iretR hx hb hr hlocks (by unfold nmA; repeat (first | rw [if_pos (by omega)] | rw [if_neg (by omega)])) rfl dX0_stateAfterName_67
  by_cases k_1_118 : s0 = 118
  · refine x_look (off := 70) (tgt := 71) hx hb dX0_stateAfterName_1 (by decide) (by rw [k_1_118]; rfl) (by omega) (by decide) ?_
    refine x_bipush hx hb dX0_stateAfterName_71 (by decide +kernel) ?_
    exact x_iretR hx hb hr hlocks (by unfold nmA; repeat (first | rw [if_pos (by omega)] | rw [if_neg (by omega)])) rfl dX0_stateAfterName_73
  refine x_look (off := 73) (tgt := 74) hx hb dX0_stateAfterName_1 (by decide) (by simp [Op.lookupswitch.offset_cons, Op.lookupswitch.offset_nil, Ne.symm, k_1_98, k_1_108, k_1_109, k_1_115, k_1_116, k_1_118]) (by omega) (by decide) ?_
  refine x_iconst hx hb dX0_stateAfterName_74 ?_
  exact x_iretR hx hb hr hlocks (by unfold nmA; repeat (first | rw [if_pos (by omega)] | rw [if_neg (by omega)])) rfl dX0_stateAfterName_75
set_option maxHeartbeats 4000000 in
set_option maxRecDepth 100000 in
theorem c_X0_stateAfter (l : Launch) (D : va_G) (cs : Nat → ClassId) (k : Int) (s0 : Int) (hk : 0 ≤ k ∧ k ≤ 10) (hsr : -1 ≤ s0 ∧ s0 < 65536) : kR D cs l yX0_stateAfter wsX0_stateAfter ({ frames := 1, cells := 0, slots := 0, locals := 21 } : Room) [.int (zI k), .int (zI s0)] (fun _ => True) (some (.int (zI (stA k s0)))) := by
  refine Met.ofW (cc := cX0_stateAfter) (maxL := 2) (ret := (some .int)) (by decide) rfl ?_
  intro p e s m args below meth c s₁ B hml hv
  obtain ⟨rfl, hK, -⟩ := hv
  have hx := B.exec
  have hb := B.bytes
  have hr := B.returns
  have hts := atoms_spec (ws := wsX0_stateAfter) B.pre
  have hown : s.vm.findClass RX0 = some m.cls := findClass_of_methodNamed B.named
  have hlocks := B.notSynchronized
  have S : CallFix p m c cX0_stateAfter 2 s (([.int (zI k), .int (zI s0)] : List Value)).toArray wsX0_stateAfter RX0 := ⟨hx, hb, hml, hown, hts⟩
  have hl := lv_entry ([.int (zI k), .int (zI s0)]) (n := 2) (Nat.le_of_ble_eq_true rfl)
  rw [lg_entry_eq]
  generalize (lg_sl ([.int (zI k), .int (zI s0)]) ++ List.replicate (2 - (lg_sl ([.int (zI k), .int (zI s0)])).length) Slot.unset).toArray = ls at hl ⊢
  have hl : lv_has ls 2 [(0, .int (zI k)), (1, .int (zI s0))] := hl
  refine lv_iload_n hx hb dX0_stateAfter_0 rfl (lv_at hl 1 rfl) ?_
  refine x_bipush hx hb dX0_stateAfter_1 (by decide +kernel) ?_
  refine x_icmp_ne (tgt := 19) hx hb dX0_stateAfter_3 (by decide) (by omega) (by omega) (fun c_3 => ?_) (fun c_3 => ?_)
  · refine lv_iload_n hx hb dX0_stateAfter_19 rfl (lv_at hl 0 rfl) ?_
    by_cases k_20_1 : k = 1
    · refine x_tabIn (k := 1) (off := 52) (tgt := 72) hx hb dX0_stateAfter_20 k_20_1 (by decide) (by decide) (by decide) rfl (by decide) ?_
      refine lv_iload_n hx hb dX0_stateAfter_72 rfl (lv_at hl 1 rfl) ?_
      refine x_callSR (As := [.int (zI s0)]) (rest := []) S hK (c_X0_stateAfterName l D cs s0 (by omega)) (va_cwS 1 hts gX0_stateAfter_X0_stateAfterName rfl rfl rfl (by decide +kernel) ⟨(Nat.le_of_ble_eq_true rfl), (Nat.le_of_ble_eq_true rfl)⟩) trivial rfl hl.1 (Nat.le_of_ble_eq_true rfl) dX0_stateAfter_73 ⟨Nat.zero_le _, Nat.zero_le _⟩ ?_
      exact x_iretR hx hb hr hlocks (by unfold stA; repeat (first | rw [if_pos (by omega)] | rw [if_neg (by omega)])) rfl dX0_stateAfter_76
    by_cases k_20_2 : k = 2
    · refine x_tabIn (k := 2) (off := 114) (tgt := 134) hx hb dX0_stateAfter_20 k_20_2 (by decide) (by decide) (by decide) rfl (by decide) ?_
      refine lv_iload_n hx hb dX0_stateAfter_134 rfl (lv_at hl 1 rfl) ?_
      refine x_bipush hx hb dX0_stateAfter_135 (by decide +kernel) ?_
      refine x_callSR (As := [.int (zI s0), .int (zI 10)]) (rest := []) S hK (c_X0_ifDigit l D cs s0 10 (by omega)) (va_cwS 2 hts gX0_stateAfter_X0_ifDigit rfl rfl rfl (by decide +kernel) ⟨(Nat.le_of_ble_eq_true rfl), (Nat.le_of_ble_eq_true rfl)⟩) trivial rfl hl.1 (Nat.le_of_ble_eq_true rfl) dX0_stateAfter_137 ⟨Nat.zero_le _, Nat.zero_le _⟩ ?_
      exact x_iretR hx hb hr hlocks (by unfold stA; repeat (first | rw [if_pos (by omega)] | rw [if_neg (by omega)])) rfl dX0_stateAfter_140
    by_cases k_20_3 : k = 3
    · refine x_tabIn (k := 3) (off := 57) (tgt := 77) hx hb dX0_stateAfter_20 k_20_3 (by decide) (by decide) (by decide) rfl (by decide) ?_
      refine lv_iload_n hx hb dX0_stateAfter_77 rfl (lv_at hl 1 rfl) ?_
      refine x_iconst hx hb dX0_stateAfter_78 ?_
      refine x_callSR (As := [.int (zI s0), .int (zI 4)]) (rest := []) S hK (c_X0_ifDigit l D cs s0 4 (by omega)) (va_cwS 2 hts gX0_stateAfter_X0_ifDigit rfl rfl rfl (by decide +kernel) ⟨(Nat.le_of_ble_eq_true rfl), (Nat.le_of_ble_eq_true rfl)⟩) trivial rfl hl.1 (Nat.le_of_ble_eq_true rfl) dX0_stateAfter_79 ⟨Nat.zero_le _, Nat.zero_le _⟩ ?_
      exact x_iretR hx hb hr hlocks (by unfold stA; repeat (first | rw [if_pos (by omega)] | rw [if_neg (by omega)])) rfl dX0_stateAfter_82
    by_cases k_20_4 : k = 4
    · refine x_tabIn (k := 4) (off := 63) (tgt := 83) hx hb dX0_stateAfter_20 k_20_4 (by decide) (by decide) (by decide) rfl (by decide) ?_
      refine lv_iload_n hx hb dX0_stateAfter_83 rfl (lv_at hl 1 rfl) ?_
      refine x_bipush hx hb dX0_stateAfter_84 (by decide +kernel) ?_
      refine x_icmp_ne (tgt := 93) hx hb dX0_stateAfter_86 (by decide) (by omega) (by omega) (fun c_86 => ?_) (fun c_86 => ?_)
      · refine x_iconst hx hb dX0_stateAfter_93 ?_
        exact x_iretR hx hb hr hlocks (by unfold stA; repeat (first | rw [if_pos (by omega)] | rw [if_neg (by omega)])) rfl dX0_stateAfter_94
      · refine x_iconst hx hb dX0_stateAfter_89 ?_
        refine lv_goto (tgt := 94) hx hb dX0_stateAfter_90 (by decide) ?_
        exact x_iretR hx hb hr hlocks (by unfold stA; repeat (first | rw [if_pos (by omega)] | rw [if_neg (by omega)])) rfl dX0_stateAfter_94
    by_cases k_20_5 : k = 5
    · refine x_tabIn (k := 5) (off := 75) (tgt := 95) hx hb dX0_stateAfter_20 k_20_5 (by decide) (by decide) (by decide) rfl (by decide) ?_
      refine lv_iload_n hx hb dX0_stateAfter_95 rfl (lv_at hl 1 rfl) ?_
      refine x_bipush hx hb dX0_stateAfter_96 (by decide +kernel) ?_
      refine x_icmp_ne (tgt := 106) hx hb dX0_stateAfter_98 (by decide) (by omega) (by omega) (fun c_98 => ?_) (fun c_98 => ?_)
      · refine lv_iload_n hx hb dX0_stateAfter_106 rfl (lv_at hl 1 rfl) ?_
        refine x_bipush hx hb dX0_stateAfter_107 (by decide +kernel) ?_
        refine x_callSR (As := [.int (zI s0), .int (zI 6)]) (rest := []) S hK (c_X0_ifDigit l D cs s0 6 (by omega)) (va_cwS 2 hts gX0_stateAfter_X0_ifDigit rfl rfl rfl (by decide +kernel) ⟨(Nat.le_of_ble_eq_true rfl), (Nat.le_of_ble_eq_true rfl)⟩) trivial rfl hl.1 (Nat.le_of_ble_eq_true rfl) dX0_stateAfter_109 ⟨Nat.zero_le _, Nat.zero_le _⟩ ?_
        exact x_iretR hx hb hr hlocks (by unfold stA; repeat (first | rw [if_pos (by omega)] | rw [if_neg (by omega)])) rfl dX0_stateAfter_112
      · refine x_bipush hx hb dX0_stateAfter_101 (by decide +kernel) ?_
        refine lv_goto (tgt := 112) hx hb dX0_stateAfter_103 (by decide) ?_
        exact x_iretR hx hb hr hlocks (by unfold stA; repeat (first | rw [if_pos (by omega)] | rw [if_neg (by omega)])) rfl dX0_stateAfter_112
    by_cases k_20_6 : k = 6
    · refine x_tabIn (k := 6) (off := 93) (tgt := 113) hx hb dX0_stateAfter_20 k_20_6 (by decide) (by decide) (by decide) rfl (by decide) ?_
      refine lv_iload_n hx hb dX0_stateAfter_113 rfl (lv_at hl 1 rfl) ?_
      refine x_bipush hx hb dX0_stateAfter_114 (by decide +kernel) ?_
      refine x_callSR (As := [.int (zI s0), .int (zI 7)]) (rest := []) S hK (c_X0_ifDigit l D cs s0 7 (by omega)) (va_cwS 2 hts gX0_stateAfter_X0_ifDigit rfl rfl rfl (by decide +kernel) ⟨(Nat.le_of_ble_eq_true rfl), (Nat.le_of_ble_eq_true rfl)⟩) trivial rfl hl.1 (Nat.le_of_ble_eq_true rfl) dX0_stateAfter_116 ⟨Nat.zero_le _, Nat.zero_le _⟩ ?_
      exact x_iretR hx hb hr hlocks (by unfold stA; repeat (first | rw [if_pos (by omega)] | rw [if_neg (by omega)])) rfl dX0_stateAfter_119
    by_cases k_20_7 : k = 7
    · refine x_tabIn (k := 7) (off := 100) (tgt := 120) hx hb dX0_stateAfter_20 k_20_7 (by decide) (by decide) (by decide) rfl (by decide) ?_
      refine lv_iload_n hx hb dX0_stateAfter_120 rfl (lv_at hl 1 rfl) ?_
      refine x_bipush hx hb dX0_stateAfter_121 (by decide +kernel) ?_
      refine x_callSR (As := [.int (zI s0), .int (zI 8)]) (rest := []) S hK (c_X0_ifDigit l D cs s0 8 (by omega)) (va_cwS 2 hts gX0_stateAfter_X0_ifDigit rfl rfl rfl (by decide +kernel) ⟨(Nat.le_of_ble_eq_true rfl), (Nat.le_of_ble_eq_true rfl)⟩) trivial rfl hl.1 (Nat.le_of_ble_eq_true rfl) dX0_stateAfter_123 ⟨Nat.zero_le _, Nat.zero_le _⟩ ?_
      exact x_iretR hx hb hr hlocks (by unfold stA; repeat (first | rw [if_pos (by omega)] | rw [if_neg (by omega)])) rfl dX0_stateAfter_126
    by_cases k_20_8 : k = 8
    · refine x_tabIn (k := 8) (off := 107) (tgt := 127) hx hb dX0_stateAfter_20 k_20_8 (by decide) (by decide) (by decide) rfl (by decide) ?_
      refine lv_iload_n hx hb dX0_stateAfter_127 rfl (lv_at hl 1 rfl) ?_
      refine x_bipush hx hb dX0_stateAfter_128 (by decide +kernel) ?_
      refine x_callSR (As := [.int (zI s0), .int (zI 10)]) (rest := []) S hK (c_X0_ifDigit l D cs s0 10 (by omega)) (va_cwS 2 hts gX0_stateAfter_X0_ifDigit rfl rfl rfl (by decide +kernel) ⟨(Nat.le_of_ble_eq_true rfl), (Nat.le_of_ble_eq_true rfl)⟩) trivial rfl hl.1 (Nat.le_of_ble_eq_true rfl) dX0_stateAfter_130 ⟨Nat.zero_le _, Nat.zero_le _⟩ ?_
      exact x_iretR hx hb hr hlocks (by unfold stA; repeat (first | rw [if_pos (by omega)] | rw [if_neg (by omega)])) rfl dX0_stateAfter_133
    by_cases k_20_9 : k = 9
    · refine x_tabIn (k := 9) (off := 121) (tgt := 141) hx hb dX0_stateAfter_20 k_20_9 (by decide) (by decide) (by decide) rfl (by decide) ?_
      refine lv_iload_n hx hb dX0_stateAfter_141 rfl (lv_at hl 1 rfl) ?_
      refine x_bipush hx hb dX0_stateAfter_142 (by decide +kernel) ?_
      refine x_callSR (As := [.int (zI s0), .int (zI 10)]) (rest := []) S hK (c_X0_ifDigit l D cs s0 10 (by omega)) (va_cwS 2 hts gX0_stateAfter_X0_ifDigit rfl rfl rfl (by decide +kernel) ⟨(Nat.le_of_ble_eq_true rfl), (Nat.le_of_ble_eq_true rfl)⟩) trivial rfl hl.1 (Nat.le_of_ble_eq_true rfl) dX0_stateAfter_144 ⟨Nat.zero_le _, Nat.zero_le _⟩ ?_
      exact x_iretR hx hb hr hlocks (by unfold stA; repeat (first | rw [if_pos (by omega)] | rw [if_neg (by omega)])) rfl dX0_stateAfter_147
    refine x_tabOut (tgt := 148) hx hb dX0_stateAfter_20 (by omega) (by omega) (by decide) ?_
    refine x_iconst hx hb dX0_stateAfter_148 ?_
    exact x_iretR hx hb hr hlocks (by unfold stA; repeat (first | rw [if_pos (by omega)] | rw [if_neg (by omega)])) rfl dX0_stateAfter_149
  · refine lv_iload_n hx hb dX0_stateAfter_6 rfl (lv_at hl 0 rfl) ?_
    refine x_callSR (As := [.int (zI k)]) (rest := []) S hK (c_X0_mayEnd l D cs k (by omega)) (va_cwS 1 hts gX0_stateAfter_X0_mayEnd rfl rfl rfl (by decide +kernel) ⟨(Nat.le_of_ble_eq_true rfl), (Nat.le_of_ble_eq_true rfl)⟩) trivial rfl hl.1 (Nat.le_of_ble_eq_true rfl) dX0_stateAfter_7 ⟨Nat.zero_le _, Nat.zero_le _⟩ ?_
    refine x_ifb_eq (tgt := 17) hx hb dX0_stateAfter_10 (by decide)  (fun c_10 => ?_) (fun c_10 => ?_)
    · refine x_iconst hx hb dX0_stateAfter_17 ?_
      exact x_iretR hx hb hr hlocks (by unfold stA; repeat (first | rw [if_pos (by omega)] | rw [if_neg (by omega)])) rfl dX0_stateAfter_18
    · refine x_iconst hx hb dX0_stateAfter_13 ?_
      refine lv_goto (tgt := 18) hx hb dX0_stateAfter_14 (by decide) ?_
      exact x_iretR hx hb hr hlocks (by unfold stA; repeat (first | rw [if_pos (by omega)] | rw [if_neg (by omega)])) rfl dX0_stateAfter_18
set_option maxHeartbeats 4000000 in
set_option maxRecDepth 100000 in
theorem c_X0_faultOf (l : Launch) (D : va_G) (cs : Nat → ClassId) (a : Int → Nat) (pd : Int → Int) (ln : Int) (hl0 : 0 ≤ ln ∧ ln ≤ 80) (hp0 : ∀ i : Int, 0 ≤ i → i < ln → 0 ≤ pd i ∧ pd i < 65536) : kR D cs l yX0_faultOf wsX0_faultOf ({ frames := 2, cells := 0, slots := 0, locals := 42 } : Room) [.ref (a 0)] (fun H => pAt D cs a pd ln H) (some (.int (zI (fO pd ln ln.toNat 0 1)))) := by
  refine Met.ofW (cc := cX0_faultOf) (maxL := 3) (ret := (some .int)) (by decide) rfl ?_
  intro p e s m args below meth c s₁ B hml hv
  obtain ⟨rfl, hK, hP⟩ := hv
  have hx := B.exec
  have hb := B.bytes
  have hr := B.returns
  have hts := atoms_spec (ws := wsX0_faultOf) B.pre
  have hown : s.vm.findClass RX0 = some m.cls := findClass_of_methodNamed B.named
  have hlocks := B.notSynchronized
  have S : CallFix p m c cX0_faultOf 3 s (([.ref (a 0)] : List Value)).toArray wsX0_faultOf RX0 := ⟨hx, hb, hml, hown, hts⟩
  have hin5 : ∀ w ∈ wsX50, w ∈ wsX0_faultOf := by decide +kernel
  have hl := lv_entry ([.ref (a 0)]) (n := 3) (Nat.le_of_ble_eq_true rfl)
  rw [lg_entry_eq]
  generalize (lg_sl ([.ref (a 0)]) ++ List.replicate (3 - (lg_sl ([.ref (a 0)])).length) Slot.unset).toArray = ls at hl ⊢
  have hl : lv_has ls 3 [(0, .ref (a 0))] := hl
  refine x_iconst hx hb dX0_faultOf_0 ?_
  refine lv_istore_n (lv' := [(1, .int (zI 1)), (0, .ref (a 0))]) hx hb dX0_faultOf_1 rfl hl (by decide) rfl (fun ls hl => ?_)
  refine x_iconst hx hb dX0_faultOf_2 ?_
  refine lv_istore_n (lv' := [(2, .int (zI 0)), (1, .int (zI 1)), (0, .ref (a 0))]) hx hb dX0_faultOf_3 rfl hl (by decide) rfl (fun ls hl => ?_)
  have lp4 : ∀ (n : Nat) (j : Int) (k : Int) (n0 : Nat), n0 < n → (j = ln - (n0 : Int)) → (0 ≤ j) → (0 ≤ k ∧ k ≤ 10) → (fO pd ln n0 j k = fO pd ln ln.toNat 0 1) → ∀ (ls : Array Slot), lv_has ls 3 [(2, .int (zI j)), (1, .int (zI k)), (0, .ref (a 0))] → W p l e (headSpec wsX0_faultOf ({ frames := 2, cells := 0, slots := 0, locals := 42 } : Room)).room s m ([.ref (a 0)] : List Value).toArray below meth c s.heap [] 0 0 (MQ below (kS (some (.int (zI (fO pd ln ln.toNat 0 1))))) ([.ref (a 0)] : List Value).toArray s 0 0 (fun _ => False)) (F0 m 4 ls []) := by
    intro n
    induction n with
    | zero => intro j k n0 hms; exact absurd hms (Nat.not_lt_zero _)
    | succ n ih =>
      intro j k n0 hms i1 i0 ik i2 ls hl
      have ih4 := ih
      clear ih
      refine lv_iload_n hx hb dX0_faultOf_4 rfl (lv_at hl 0 rfl) ?_
      refine lv_aload_n hx hb dX0_faultOf_5 rfl (lv_at hl 2 rfl) ?_
      refine p_g_length S hin5 hK hP (hts (.fieldLink RX0 11 "EnergyDiscs$Pad" "length" "I") (by decide +kernel)) dX0_faultOf_6 ?_
      refine x_icmp_ge (tgt := 34) hx hb dX0_faultOf_9 (by decide) (by omega) (by omega) (fun c_9 => ?_) (fun c_9 => ?_)
      · refine lv_iload_n hx hb dX0_faultOf_34 rfl (lv_at hl 1 rfl) ?_
        refine x_callSR (As := [.int (zI k)]) (rest := []) S hK (c_X0_mayEnd l D cs k (by omega)) (va_cwS 1 hts gX0_faultOf_X0_mayEnd rfl rfl rfl (by decide +kernel) ⟨(Nat.le_of_ble_eq_true rfl), (Nat.le_of_ble_eq_true rfl)⟩) trivial rfl hl.1 (Nat.le_of_ble_eq_true rfl) dX0_faultOf_35 ⟨Nat.zero_le _, Nat.zero_le _⟩ ?_
        refine x_ifb_eq (tgt := 46) hx hb dX0_faultOf_38 (by decide)  (fun c_38 => ?_) (fun c_38 => ?_)
        · refine lv_aload_n hx hb dX0_faultOf_46 rfl (lv_at hl 2 rfl) ?_
          refine p_g_length S hin5 hK hP (hts (.fieldLink RX0 11 "EnergyDiscs$Pad" "length" "I") (by decide +kernel)) dX0_faultOf_47 ?_
          exact x_iretR hx hb hr hlocks (by have hz : n0 = 0 := (by omega); subst hz; rw [← i2]; show _ = if k = 2 ∨ (6 ≤ k ∧ k ≤ 8) ∨ k = 10 then -6 else j; first | (rw [if_pos (by omega)]) | (rw [if_neg (by omega)]; omega)) rfl dX0_faultOf_50
        · refine x_bipush hx hb dX0_faultOf_41 (by decide +kernel) ?_
          refine lv_goto (tgt := 50) hx hb dX0_faultOf_43 (by decide) ?_
          exact x_iretR hx hb hr hlocks (by have hz : n0 = 0 := (by omega); subst hz; rw [← i2]; show _ = if k = 2 ∨ (6 ≤ k ∧ k ≤ 8) ∨ k = 10 then -6 else j; first | (rw [if_pos (by omega)]) | (rw [if_neg (by omega)]; omega)) rfl dX0_faultOf_50
      · refine lv_iload_n hx hb dX0_faultOf_12 rfl (lv_at hl 1 rfl) ?_
        refine lv_aload_n hx hb dX0_faultOf_13 rfl (lv_at hl 2 rfl) ?_
        refine lv_iload_n hx hb dX0_faultOf_14 rfl (lv_at hl 0 rfl) ?_
        have hsg := sgA_rng (ln := ln) (k := j) hp0
        refine x_callVR (As := [.int (zI j)]) (rest := [.int (zI k)]) S hK (c_X5_signAt l D cs a pd ln j (by omega) (by omega)) (cwV 1 hts gX0_faultOf_X5_signAt rfl rfl rfl (by decide +kernel) ⟨(Nat.le_of_ble_eq_true rfl), (Nat.le_of_ble_eq_true rfl)⟩) (x_rc hK (pAt_0 hP) rfl) hP rfl hl.1 (Nat.le_of_ble_eq_true rfl) dX0_faultOf_15 ⟨Nat.zero_le _, Nat.zero_le _⟩ ?_
        refine x_callSR (As := [.int (zI k), .int (zI (sgA pd ln j))]) (rest := []) S hK (c_X0_stateAfter l D cs k (sgA pd ln j) (by omega) (by omega)) (va_cwS 2 hts gX0_faultOf_X0_stateAfter rfl rfl rfl (by decide +kernel) ⟨(Nat.le_of_ble_eq_true rfl), (Nat.le_of_ble_eq_true rfl)⟩) trivial rfl hl.1 (Nat.le_of_ble_eq_true rfl) dX0_faultOf_18 ⟨Nat.zero_le _, Nat.zero_le _⟩ ?_
        have hst := stA_rng k (sgA pd ln j)
        refine lv_istore_n (lv' := [(1, .int (zI (stA k (sgA pd ln j)))), (2, .int (zI j)), (0, .ref (a 0))]) hx hb dX0_faultOf_21 rfl hl (by decide) rfl (fun ls hl => ?_)
        refine lv_iload_n hx hb dX0_faultOf_22 rfl (lv_at hl 0 rfl) ?_
        refine x_if_ne (tgt := 28) hx hb dX0_faultOf_23 (by decide) (by omega) (fun c_23 => ?_) (fun c_23 => ?_)
        · refine x_iinc (x := j) (lv' := [(2, .int (zI (j + 1))), (1, .int (zI (stA k (sgA pd ln j)))), (0, .ref (a 0))]) hx hb dX0_faultOf_28 hl (k := 1) rfl (by decide) rfl (fun ls hl => ?_)
          refine lv_goto (tgt := 4) hx hb dX0_faultOf_31 (by decide) ?_
          exact ih4 (j + 1) (stA k (sgA pd ln j)) (n0 - 1) (by omega) (by omega) (by omega) (by omega) (by obtain ⟨g, hg⟩ : ∃ g, n0 = g + 1 := ⟨n0 - 1, by omega⟩; subst hg; rw [← i2, fO_go (by omega)]; rfl) ls (lv_sub hl [0, 1, 2] rfl)
        · refine lv_iload_n hx hb dX0_faultOf_26 rfl (lv_at hl 1 rfl) ?_
          exact x_iretR hx hb hr hlocks (by obtain ⟨g, hg⟩ : ∃ g, n0 = g + 1 := ⟨n0 - 1, by omega⟩; subst hg; rw [← i2, fO_hit (by omega)]) rfl dX0_faultOf_27
  exact lp4 (ln.toNat + 1) 0 1 ln.toNat (Nat.lt_succ_self _) (by omega) (by omega) (by omega) (by rfl) ls (lv_sub hl [0, 1, 2] rfl)
