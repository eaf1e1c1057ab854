set_option maxHeartbeats 4000000 in
set_option maxRecDepth 100000 in
theorem c_X6_carryOneOut_bad (l : Launch) (D : va_G) (cs : Nat → ClassId) (a : Int → Nat) (τ : Int → Int) (ss : Int → Int → Int) (hh : Int → Int → Int) (pr : Int → Int) (pd : Int → Int) (ln : Int) (fr : Int) (kp : Int) (su : Int → Int) (p0 : Int) (en : Int) (hg : gOK τ 0) (hl0 : 0 ≤ ln ∧ ln ≤ 80) (h0 : 0 ≤ p0) (he : ordE pd ln p0 = en ∧ 0 ≤ en) (hp0 : ∀ i : Int, 0 ≤ i → i < ln → 0 ≤ pd i ∧ pd i < 65536) (hn : whN τ pd ln p0 < 0) : kR D cs l yX6_carryOneOut wsX6_carryOneOut ({ frames := 5, cells := 0, slots := 0, locals := 121 } : Room) [.ref (a 0), .int (zI p0), .int (zI en)] (fun H => eAt D cs a τ ss hh pr pd ln fr kp su H) (some (.int (zI (whN τ pd ln p0)))) := by
  refine Met.ofW (cc := cX6_carryOneOut) (maxL := 3) (ret := (some .int)) (by decide) rfl ?_
  intro p e s m args below meth c s₁ B hml hv
  obtain ⟨rfl, hK, hE⟩ := hv
  have hx := B.exec
  have hb := B.bytes
  have hr := B.returns
  have hts := atoms_spec (ws := wsX6_carryOneOut) B.pre
  have hown : s.vm.findClass RX6 = some m.cls := findClass_of_methodNamed B.named
  have hlocks := B.notSynchronized
  have S : CallFix p m c cX6_carryOneOut 3 s (([.ref (a 0), .int (zI p0), .int (zI en)] : List Value)).toArray wsX6_carryOneOut RX6 := ⟨hx, hb, hml, hown, hts⟩
  have hin6 : ∀ w ∈ wsX60, w ∈ wsX6_carryOneOut := by decide +kernel
  have hl := lv_entry ([.ref (a 0), .int (zI p0), .int (zI en)]) (n := 3) (Nat.le_of_ble_eq_true rfl)
  rw [lg_entry_eq]
  generalize (lg_sl ([.ref (a 0), .int (zI p0), .int (zI en)]) ++ List.replicate (3 - (lg_sl ([.ref (a 0), .int (zI p0), .int (zI en)])).length) Slot.unset).toArray = ls at hl ⊢
  have hl : lv_has ls 3 [(0, .ref (a 0)), (1, .int (zI p0)), (2, .int (zI en))] := hl
  have h7 := hg.1.1
  have h8 := hg.1.2.1
  have hle := ord_le h0 (show 0 ≤ ordE pd ln p0 by omega)
  have hwr := whN_rng τ pd ln p0
  have h6 : 0 ≤ τ 6 ∧ τ 6 < 1000000 := hg.2.1.2.2.2.2
  refine lv_aload_n hx hb dX6_carryOneOut_0 rfl (lv_at hl 0 rfl) ?_
  refine e_g_pad S hin6 hK hE (hts (.fieldLink RX6 26 "EnergyDiscs" "pad" "LEnergyDiscs$Pad;") (by decide +kernel)) dX6_carryOneOut_1 ?_
  refine lv_iload_n hx hb dX6_carryOneOut_4 rfl (lv_at hl 1 rfl) ?_
  refine x_callVR (As := [.int (zI p0)]) (rest := []) S hK (c_X5_signAt l D cs (epd a) pd ln p0 (by omega) (by omega)) (cwV 1 hts gX6_carryOneOut_X5_signAt rfl rfl rfl (by decide +kernel) ⟨(Nat.le_of_ble_eq_true rfl), (Nat.le_of_ble_eq_true rfl)⟩) (x_rc hK (pAt_0 (eAt_P hE)) rfl) (eAt_P hE) rfl hl.1 (Nat.le_of_ble_eq_true rfl) dX6_carryOneOut_5 ⟨Nat.zero_le _, Nat.zero_le _⟩ ?_
  have hsg := sgA_rng (ln := ln) (k := p0) hp0
  have hd1 := dgS_rng pd ln (p0 + 1)
  have hn1 := numA_rng pd ln (p0 + 1) (by omega)
  have hn3 := numA_rng pd ln (p0 + 3) (by omega)
  by_cases k_8_98 : sgA pd ln p0 = 98
  · refine x_look (off := 149) (tgt := 157) hx hb dX6_carryOneOut_8 (by decide) (by rw [k_8_98]; rfl) (by omega) (by decide) ?_
    have hc := sg_cd k_8_98 (by decide)
    have ho := ord_98 (Or.inl hc) h0 (by omega)
    have hw : whN τ pd ln p0 = wnT τ (dgS pd ln (p0 + 1)) := by unfold whN; rw [if_neg (by omega), if_neg (by omega), if_neg (by omega), if_neg (by omega), if_pos hc]
    refine lv_aload_n hx hb dX6_carryOneOut_157 rfl (lv_at hl 0 rfl) ?_
    refine e_g_house S hin6 hK hE (hts (.fieldLink RX6 10 "EnergyDiscs" "house" "LEnergyDiscs$House;") (by decide +kernel)) dX6_carryOneOut_158 ?_
    refine lv_aload_n hx hb dX6_carryOneOut_161 rfl (lv_at hl 0 rfl) ?_
    refine e_g_pad S hin6 hK hE (hts (.fieldLink RX6 26 "EnergyDiscs" "pad" "LEnergyDiscs$Pad;") (by decide +kernel)) dX6_carryOneOut_162 ?_
    refine lv_iload_n hx hb dX6_carryOneOut_165 rfl (lv_at hl 1 rfl) ?_
    refine x_iconst hx hb dX6_carryOneOut_166 ?_
    refine x_iadd hx hb dX6_carryOneOut_167 ?_
    refine lv_iload_n hx hb dX6_carryOneOut_168 rfl (lv_at hl 2 rfl) ?_
    refine x_callVR (As := [.int (zI (p0 + 1)), .int (zI en)]) (rest := [.ref (ehs a 0 0)]) S hK (c_X5_numberIn l D cs (epd a) pd ln (p0 + 1) en (by omega) (by omega)) (cwV 2 hts gX6_carryOneOut_X5_numberIn rfl rfl rfl (by decide +kernel) ⟨(Nat.le_of_ble_eq_true rfl), (Nat.le_of_ble_eq_true rfl)⟩) (x_rc hK (pAt_0 (eAt_P hE)) rfl) (eAt_P hE) rfl hl.1 (Nat.le_of_ble_eq_true rfl) dX6_carryOneOut_169 ⟨Nat.zero_le _, Nat.zero_le _⟩ ?_
    rw [show (cnv pd ln (p0 + 1) (en - (p0 + 1)).toNat : Int) = dgS pd ln (p0 + 1) from by exact cnv_dig (by omega) (by omega) (by omega)]
    refine x_callVR (As := [.int (zI (dgS pd ln (p0 + 1)))]) (rest := []) S hK (c_X2_breakSeal_bad l D cs (ehs a 0) τ (dgS pd ln (p0 + 1)) (by omega) (by omega) (by exact fun a b => (dOK_0 (hg.2.2 _ a b)).2.2.2) (by omega)) (cwV 1 hts gX6_carryOneOut_X2_breakSeal rfl rfl rfl (by decide +kernel) ⟨(Nat.le_of_ble_eq_true rfl), (Nat.le_of_ble_eq_true rfl)⟩) (x_rc hK (hsAt_0 (hAt_hs (eAt_H hE))) rfl) (eAt_H hE) rfl hl.1 (Nat.le_of_ble_eq_true rfl) dX6_carryOneOut_172 ⟨Nat.zero_le _, Nat.zero_le _⟩ ?_
    exact x_iretR hx hb hr hlocks (by first | omega | (rw [hw]; symm; exact if_neg (fun q => by rw [if_pos q] at hw; omega))) rfl dX6_carryOneOut_175
  by_cases k_8_108 : sgA pd ln p0 = 108
  · refine x_look (off := 79) (tgt := 87) hx hb dX6_carryOneOut_8 (by decide) (by rw [k_8_108]; rfl) (by omega) (by decide) ?_
    have hc := sg_cd k_8_108 (by decide)
    have ho := ord_108 hc h0 (by omega)
    have hw : whN τ pd ln p0 = wnL τ (dgS pd ln (p0 + 1)) (numA pd ln (p0 + 3)) := by unfold whN; rw [if_neg (by omega), if_pos hc]
    refine lv_aload_n hx hb dX6_carryOneOut_87 rfl (lv_at hl 0 rfl) ?_
    refine e_g_house S hin6 hK hE (hts (.fieldLink RX6 10 "EnergyDiscs" "house" "LEnergyDiscs$House;") (by decide +kernel)) dX6_carryOneOut_88 ?_
    refine lv_aload_n hx hb dX6_carryOneOut_91 rfl (lv_at hl 0 rfl) ?_
    refine e_g_pad S hin6 hK hE (hts (.fieldLink RX6 26 "EnergyDiscs" "pad" "LEnergyDiscs$Pad;") (by decide +kernel)) dX6_carryOneOut_92 ?_
    refine lv_iload_n hx hb dX6_carryOneOut_95 rfl (lv_at hl 1 rfl) ?_
    refine x_iconst hx hb dX6_carryOneOut_96 ?_
    refine x_iadd hx hb dX6_carryOneOut_97 ?_
    refine lv_iload_n hx hb dX6_carryOneOut_98 rfl (lv_at hl 1 rfl) ?_
    refine x_iconst hx hb dX6_carryOneOut_99 ?_
    refine x_iadd hx hb dX6_carryOneOut_100 ?_
    refine x_callVR (As := [.int (zI (p0 + 1)), .int (zI (p0 + 2))]) (rest := [.ref (ehs a 0 0)]) S hK (c_X5_numberIn l D cs (epd a) pd ln (p0 + 1) (p0 + 2) (by omega) (by omega)) (cwV 2 hts gX6_carryOneOut_X5_numberIn rfl rfl rfl (by decide +kernel) ⟨(Nat.le_of_ble_eq_true rfl), (Nat.le_of_ble_eq_true rfl)⟩) (x_rc hK (pAt_0 (eAt_P hE)) rfl) (eAt_P hE) rfl hl.1 (Nat.le_of_ble_eq_true rfl) dX6_carryOneOut_101 ⟨Nat.zero_le _, Nat.zero_le _⟩ ?_
    rw [show (cnv pd ln (p0 + 1) ((p0 + 2) - (p0 + 1)).toNat : Int) = dgS pd ln (p0 + 1) from by exact cnv_dig (by omega) (by omega) (by omega)]
    refine lv_aload_n hx hb dX6_carryOneOut_104 rfl (lv_at hl 0 rfl) ?_
    refine e_g_pad S hin6 hK hE (hts (.fieldLink RX6 26 "EnergyDiscs" "pad" "LEnergyDiscs$Pad;") (by decide +kernel)) dX6_carryOneOut_105 ?_
    refine lv_iload_n hx hb dX6_carryOneOut_108 rfl (lv_at hl 1 rfl) ?_
    refine x_iconst hx hb dX6_carryOneOut_109 ?_
    refine x_iadd hx hb dX6_carryOneOut_110 ?_
    refine lv_iload_n hx hb dX6_carryOneOut_111 rfl (lv_at hl 2 rfl) ?_
    refine x_callVR (As := [.int (zI (p0 + 3)), .int (zI en)]) (rest := [.int (zI (dgS pd ln (p0 + 1))), .ref (ehs a 0 0)]) S hK (c_X5_numberIn l D cs (epd a) pd ln (p0 + 3) en (by omega) (by omega)) (cwV 2 hts gX6_carryOneOut_X5_numberIn rfl rfl rfl (by decide +kernel) ⟨(Nat.le_of_ble_eq_true rfl), (Nat.le_of_ble_eq_true rfl)⟩) (x_rc hK (pAt_0 (eAt_P hE)) rfl) (eAt_P hE) rfl hl.1 (Nat.le_of_ble_eq_true rfl) dX6_carryOneOut_112 ⟨Nat.zero_le _, Nat.zero_le _⟩ ?_
    rw [show (cnv pd ln (p0 + 3) (en - (p0 + 3)).toNat : Int) = numA pd ln (p0 + 3) from by have e := cnv_num (pd := pd) (ln := ln) (p := p0 + 3) (by omega) (by omega); rw [show (en - (p0 + 3)).toNat = (nend pd ln (p0 + 3) - (p0 + 3)).toNat by omega]; exact e]
    refine x_callVR (As := [.int (zI (dgS pd ln (p0 + 1))), .int (zI (numA pd ln (p0 + 3)))]) (rest := []) S hK (c_X2_addLoad_bad l D cs (ehs a 0) τ (dgS pd ln (p0 + 1)) (numA pd ln (p0 + 3)) (by omega) (by omega) (by omega) (by omega) (by omega)) (cwV 2 hts gX6_carryOneOut_X2_addLoad rfl rfl rfl (by decide +kernel) ⟨(Nat.le_of_ble_eq_true rfl), (Nat.le_of_ble_eq_true rfl)⟩) (x_rc hK (hsAt_0 (hAt_hs (eAt_H hE))) rfl) (eAt_H hE) rfl hl.1 (Nat.le_of_ble_eq_true rfl) dX6_carryOneOut_115 ⟨Nat.zero_le _, Nat.zero_le _⟩ ?_
    exact x_iretR hx hb hr hlocks (by first | omega | (rw [hw]; symm; exact if_neg (fun q => by rw [if_pos q] at hw; omega))) rfl dX6_carryOneOut_118
  by_cases k_8_109 : sgA pd ln p0 = 109
  · refine x_look (off := 60) (tgt := 68) hx hb dX6_carryOneOut_8 (by decide) (by rw [k_8_109]; rfl) (by omega) (by decide) ?_
    have hc := sg_cd k_8_109 (by decide)
    have ho := ord_109 hc
    have hw : whN τ pd ln p0 = wnM τ (if dgS pd ln (p0 + 1) < 0 then 0 else dgS pd ln (p0 + 1)) := if_pos hc
    have hkr : 0 ≤ (if dgS pd ln (p0 + 1) < 0 then 0 else dgS pd ln (p0 + 1)) ∧ (if dgS pd ln (p0 + 1) < 0 then 0 else dgS pd ln (p0 + 1)) ≤ 9 := by split <;> omega
    refine lv_aload_n hx hb dX6_carryOneOut_68 rfl (lv_at hl 0 rfl) ?_
    refine e_g_house S hin6 hK hE (hts (.fieldLink RX6 10 "EnergyDiscs" "house" "LEnergyDiscs$House;") (by decide +kernel)) dX6_carryOneOut_69 ?_
    refine lv_aload_n hx hb dX6_carryOneOut_72 rfl (lv_at hl 0 rfl) ?_
    refine e_g_pad S hin6 hK hE (hts (.fieldLink RX6 26 "EnergyDiscs" "pad" "LEnergyDiscs$Pad;") (by decide +kernel)) dX6_carryOneOut_73 ?_
    refine lv_iload_n hx hb dX6_carryOneOut_76 rfl (lv_at hl 1 rfl) ?_
    refine x_iconst hx hb dX6_carryOneOut_77 ?_
    refine x_iadd hx hb dX6_carryOneOut_78 ?_
    refine lv_iload_n hx hb dX6_carryOneOut_79 rfl (lv_at hl 2 rfl) ?_
    refine x_callVR (As := [.int (zI (p0 + 1)), .int (zI en)]) (rest := [.ref (ehs a 0 0)]) S hK (c_X5_numberIn l D cs (epd a) pd ln (p0 + 1) en (by omega) (by omega)) (cwV 2 hts gX6_carryOneOut_X5_numberIn rfl rfl rfl (by decide +kernel) ⟨(Nat.le_of_ble_eq_true rfl), (Nat.le_of_ble_eq_true rfl)⟩) (x_rc hK (pAt_0 (eAt_P hE)) rfl) (eAt_P hE) rfl hl.1 (Nat.le_of_ble_eq_true rfl) dX6_carryOneOut_80 ⟨Nat.zero_le _, Nat.zero_le _⟩ ?_
    rw [show (cnv pd ln (p0 + 1) (en - (p0 + 1)).toNat : Int) = if dgS pd ln (p0 + 1) < 0 then 0 else dgS pd ln (p0 + 1) from by exact cnv_m h0 (by omega)]
    refine x_callVR (As := [.int (zI (if dgS pd ln (p0 + 1) < 0 then 0 else dgS pd ln (p0 + 1)))]) (rest := []) S hK (c_X2_addMeter_bad l D cs (ehs a 0) τ (if dgS pd ln (p0 + 1) < 0 then 0 else dgS pd ln (p0 + 1)) (by omega) (by omega) (by omega)) (cwV 1 hts gX6_carryOneOut_X2_addMeter rfl rfl rfl (by decide +kernel) ⟨(Nat.le_of_ble_eq_true rfl), (Nat.le_of_ble_eq_true rfl)⟩) (x_rc hK (hsAt_0 (hAt_hs (eAt_H hE))) rfl) (eAt_H hE) rfl hl.1 (Nat.le_of_ble_eq_true rfl) dX6_carryOneOut_83 ⟨Nat.zero_le _, Nat.zero_le _⟩ ?_
    exact x_iretR hx hb hr hlocks (by first | omega | (rw [hw]; symm; exact if_neg (fun q => by rw [if_pos q] at hw; omega))) rfl dX6_carryOneOut_86
  by_cases k_8_115 : sgA pd ln p0 = 115
  · refine x_look (off := 111) (tgt := 119) hx hb dX6_carryOneOut_8 (by decide) (by rw [k_8_115]; rfl) (by omega) (by decide) ?_
    have hc := sg_cd k_8_115 (by decide)
    have ho := ord_115 (Or.inl hc)
    have hnd := nend_rng pd ln (p0 + 1)
    have hw : whN τ pd ln p0 = if 0 ≤ numA pd ln (p0 + 1) ∧ numA pd ln (p0 + 1) < τ 8 then 0 else -1 := by unfold whN; rw [if_neg (by omega), if_neg (by omega), if_pos hc]
    refine lv_aload_n hx hb dX6_carryOneOut_119 rfl (lv_at hl 0 rfl) ?_
    refine e_g_house S hin6 hK hE (hts (.fieldLink RX6 10 "EnergyDiscs" "house" "LEnergyDiscs$House;") (by decide +kernel)) dX6_carryOneOut_120 ?_
    refine lv_aload_n hx hb dX6_carryOneOut_123 rfl (lv_at hl 0 rfl) ?_
    refine e_g_pad S hin6 hK hE (hts (.fieldLink RX6 26 "EnergyDiscs" "pad" "LEnergyDiscs$Pad;") (by decide +kernel)) dX6_carryOneOut_124 ?_
    refine lv_iload_n hx hb dX6_carryOneOut_127 rfl (lv_at hl 1 rfl) ?_
    refine x_iconst hx hb dX6_carryOneOut_128 ?_
    refine x_iadd hx hb dX6_carryOneOut_129 ?_
    refine lv_iload_n hx hb dX6_carryOneOut_130 rfl (lv_at hl 2 rfl) ?_
    refine x_callVR (As := [.int (zI (p0 + 1)), .int (zI en)]) (rest := [.ref (ehs a 0 0)]) S hK (c_X5_numberIn l D cs (epd a) pd ln (p0 + 1) en (by omega) (by omega)) (cwV 2 hts gX6_carryOneOut_X5_numberIn rfl rfl rfl (by decide +kernel) ⟨(Nat.le_of_ble_eq_true rfl), (Nat.le_of_ble_eq_true rfl)⟩) (x_rc hK (pAt_0 (eAt_P hE)) rfl) (eAt_P hE) rfl hl.1 (Nat.le_of_ble_eq_true rfl) dX6_carryOneOut_131 ⟨Nat.zero_le _, Nat.zero_le _⟩ ?_
    rw [show (cnv pd ln (p0 + 1) (en - (p0 + 1)).toNat : Int) = numA pd ln (p0 + 1) from by have e := cnv_num (pd := pd) (ln := ln) (p := p0 + 1) (by omega) (by omega); rw [show (en - (p0 + 1)).toNat = (nend pd ln (p0 + 1) - (p0 + 1)).toNat by omega]; exact e]
    refine x_callVR (As := [.int (zI (numA pd ln (p0 + 1)))]) (rest := []) S hK (c_X2_switchLoad_bad l D cs (ehs a 0) τ (numA pd ln (p0 + 1)) (by omega) (by omega) (by intro q; rw [if_pos q] at hw; omega)) (cwV 1 hts gX6_carryOneOut_X2_switchLoad rfl rfl rfl (by decide +kernel) ⟨(Nat.le_of_ble_eq_true rfl), (Nat.le_of_ble_eq_true rfl)⟩) (x_rc hK (hsAt_0 (hAt_hs (eAt_H hE))) rfl) (eAt_H hE) rfl hl.1 (Nat.le_of_ble_eq_true rfl) dX6_carryOneOut_134 ⟨Nat.zero_le _, Nat.zero_le _⟩ ?_
    exact x_iretR hx hb hr hlocks (by first | omega | (rw [hw]; symm; exact if_neg (fun q => by rw [if_pos q] at hw; omega))) rfl dX6_carryOneOut_137
  by_cases k_8_116 : sgA pd ln p0 = 116
  · refine x_look (off := 130) (tgt := 138) hx hb dX6_carryOneOut_8 (by decide) (by rw [k_8_116]; rfl) (by omega) (by decide) ?_
    have hc := sg_cd k_8_116 (by decide)
    have ho := ord_115 (Or.inr hc)
    have hnd := nend_rng pd ln (p0 + 1)
    have hw : whN τ pd ln p0 = wnP τ (numA pd ln (p0 + 1)) := by unfold whN; rw [if_neg (by omega), if_neg (by omega), if_neg (by omega), if_pos hc]
    refine lv_aload_n hx hb dX6_carryOneOut_138 rfl (lv_at hl 0 rfl) ?_
    refine e_g_house S hin6 hK hE (hts (.fieldLink RX6 10 "EnergyDiscs" "house" "LEnergyDiscs$House;") (by decide +kernel)) dX6_carryOneOut_139 ?_
    refine lv_aload_n hx hb dX6_carryOneOut_142 rfl (lv_at hl 0 rfl) ?_
    refine e_g_pad S hin6 hK hE (hts (.fieldLink RX6 26 "EnergyDiscs" "pad" "LEnergyDiscs$Pad;") (by decide +kernel)) dX6_carryOneOut_143 ?_
    refine lv_iload_n hx hb dX6_carryOneOut_146 rfl (lv_at hl 1 rfl) ?_
    refine x_iconst hx hb dX6_carryOneOut_147 ?_
    refine x_iadd hx hb dX6_carryOneOut_148 ?_
    refine lv_iload_n hx hb dX6_carryOneOut_149 rfl (lv_at hl 2 rfl) ?_
    refine x_callVR (As := [.int (zI (p0 + 1)), .int (zI en)]) (rest := [.ref (ehs a 0 0)]) S hK (c_X5_numberIn l D cs (epd a) pd ln (p0 + 1) en (by omega) (by omega)) (cwV 2 hts gX6_carryOneOut_X5_numberIn rfl rfl rfl (by decide +kernel) ⟨(Nat.le_of_ble_eq_true rfl), (Nat.le_of_ble_eq_true rfl)⟩) (x_rc hK (pAt_0 (eAt_P hE)) rfl) (eAt_P hE) rfl hl.1 (Nat.le_of_ble_eq_true rfl) dX6_carryOneOut_150 ⟨Nat.zero_le _, Nat.zero_le _⟩ ?_
    rw [show (cnv pd ln (p0 + 1) (en - (p0 + 1)).toNat : Int) = numA pd ln (p0 + 1) from by have e := cnv_num (pd := pd) (ln := ln) (p := p0 + 1) (by omega) (by omega); rw [show (en - (p0 + 1)).toNat = (nend pd ln (p0 + 1) - (p0 + 1)).toNat by omega]; exact e]
    refine x_callVR (As := [.int (zI (numA pd ln (p0 + 1)))]) (rest := []) S hK (c_X2_elapse_bad l D cs (ehs a 0) τ (numA pd ln (p0 + 1)) (by omega) (by omega) (by omega)) (cwV 1 hts gX6_carryOneOut_X2_elapse rfl rfl rfl (by decide +kernel) ⟨(Nat.le_of_ble_eq_true rfl), (Nat.le_of_ble_eq_true rfl)⟩) (x_rc hK (hsAt_0 (hAt_hs (eAt_H hE))) rfl) (eAt_H hE) rfl hl.1 (Nat.le_of_ble_eq_true rfl) dX6_carryOneOut_153 ⟨Nat.zero_le _, Nat.zero_le _⟩ ?_
    exact x_iretR hx hb hr hlocks (by first | omega | (rw [hw]; symm; exact if_neg (fun q => by rw [if_pos q] at hw; omega))) rfl dX6_carryOneOut_156
  by_cases k_8_118 : sgA pd ln p0 = 118
  · refine x_look (off := 168) (tgt := 176) hx hb dX6_carryOneOut_8 (by decide) (by rw [k_8_118]; rfl) (by omega) (by decide) ?_
    have hc := sg_cd k_8_118 (by decide)
    have ho := ord_98 (Or.inr hc) h0 (by omega)
    have hw : whN τ pd ln p0 = if 0 ≤ dgS pd ln (p0 + 1) ∧ dgS pd ln (p0 + 1) < τ 7 then 0 else -1 := by unfold whN; rw [if_neg (by omega), if_neg (by omega), if_neg (by omega), if_neg (by omega), if_neg (by omega)]
    refine lv_aload_n hx hb dX6_carryOneOut_176 rfl (lv_at hl 0 rfl) ?_
    refine e_g_house S hin6 hK hE (hts (.fieldLink RX6 10 "EnergyDiscs" "house" "LEnergyDiscs$House;") (by decide +kernel)) dX6_carryOneOut_177 ?_
    refine lv_aload_n hx hb dX6_carryOneOut_180 rfl (lv_at hl 0 rfl) ?_
    refine e_g_pad S hin6 hK hE (hts (.fieldLink RX6 26 "EnergyDiscs" "pad" "LEnergyDiscs$Pad;") (by decide +kernel)) dX6_carryOneOut_181 ?_
    refine lv_iload_n hx hb dX6_carryOneOut_184 rfl (lv_at hl 1 rfl) ?_
    refine x_iconst hx hb dX6_carryOneOut_185 ?_
    refine x_iadd hx hb dX6_carryOneOut_186 ?_
    refine lv_iload_n hx hb dX6_carryOneOut_187 rfl (lv_at hl 2 rfl) ?_
    refine x_callVR (As := [.int (zI (p0 + 1)), .int (zI en)]) (rest := [.ref (ehs a 0 0)]) S hK (c_X5_numberIn l D cs (epd a) pd ln (p0 + 1) en (by omega) (by omega)) (cwV 2 hts gX6_carryOneOut_X5_numberIn rfl rfl rfl (by decide +kernel) ⟨(Nat.le_of_ble_eq_true rfl), (Nat.le_of_ble_eq_true rfl)⟩) (x_rc hK (pAt_0 (eAt_P hE)) rfl) (eAt_P hE) rfl hl.1 (Nat.le_of_ble_eq_true rfl) dX6_carryOneOut_188 ⟨Nat.zero_le _, Nat.zero_le _⟩ ?_
    rw [show (cnv pd ln (p0 + 1) (en - (p0 + 1)).toNat : Int) = dgS pd ln (p0 + 1) from by exact cnv_dig (by omega) (by omega) (by omega)]
    refine x_callVR (As := [.int (zI (dgS pd ln (p0 + 1)))]) (rest := []) S hK (c_X2_inspect_bad l D cs (ehs a 0) τ (dgS pd ln (p0 + 1)) (by omega) (by omega) (by intro q; rw [if_pos q] at hw; omega)) (cwV 1 hts gX6_carryOneOut_X2_inspect rfl rfl rfl (by decide +kernel) ⟨(Nat.le_of_ble_eq_true rfl), (Nat.le_of_ble_eq_true rfl)⟩) (x_rc hK (hsAt_0 (hAt_hs (eAt_H hE))) rfl) (eAt_H hE) rfl hl.1 (Nat.le_of_ble_eq_true rfl) dX6_carryOneOut_191 ⟨Nat.zero_le _, Nat.zero_le _⟩ ?_
    exact x_iretR hx hb hr hlocks (by first | omega | (rw [hw]; symm; exact if_neg (fun q => by rw [if_pos q] at hw; omega))) rfl dX6_carryOneOut_194
  refine x_look (off := 187) (tgt := 195) hx hb dX6_carryOneOut_8 (by decide) (by simp [Op.lookupswitch.offset_cons, Op.lookupswitch.offset_nil, Ne.symm, k_8_98, k_8_108, k_8_109, k_8_115, k_8_116, k_8_118]) (by omega) (by decide) ?_
  exfalso; rcases ord_one h0 (show 0 ≤ ordE pd ln p0 by omega) with q | q | q | q | q | q <;> have := cd_sg q (by decide) h0 <;> omega
set_option maxHeartbeats 4000000 in
set_option maxRecDepth 100000 in
theorem c_X6_carryOneOut_ok (l : Launch) (D : va_G) (cs : Nat → ClassId) (a : Int → Nat) (τ : Int → Int) (ss : Int → Int → Int) (hh : Int → Int → Int) (pr : Int → Int) (pd : Int → Int) (ln : Int) (fr : Int) (kp : Int) (su : Int → Int) (p0 : Int) (en : Int) (hI : eI a) (hg : gOK τ 0) (hl0 : 0 ≤ ln ∧ ln ≤ 80) (h0 : 0 ≤ p0) (he : ordE pd ln p0 = en ∧ 0 ≤ en) (hp0 : ∀ i : Int, 0 ≤ i → i < ln → 0 ≤ pd i ∧ pd i < 65536) (hn : whN τ pd ln p0 = 0) : kM D cs l yX6_carryOneOut wsX6_carryOneOut ({ frames := 5, cells := 0, slots := 0, locals := 121 } : Room) [.ref (a 0), .int (zI p0), .int (zI en)] (fun H => eAt D cs a τ ss hh pr pd ln fr kp su H) (some (.int (zI (dorC τ pd ln p0)))) (fun H => eAt D cs a (dosC τ pd ln p0) ss hh pr pd ln fr kp su H) (eC a) := by
  refine Met.ofW (cc := cX6_carryOneOut) (maxL := 3) (ret := (some .int)) (by decide) rfl ?_
  intro p e s m args below meth c s₁ B hml hv
  obtain ⟨rfl, hK, hE⟩ := hv
  have hx := B.exec
  have hb := B.bytes
  have hr := B.returns
  have hts := atoms_spec (ws := wsX6_carryOneOut) B.pre
  have hown : s.vm.findClass RX6 = some m.cls := findClass_of_methodNamed B.named
  have hlocks := B.notSynchronized
  have S : CallFix p m c cX6_carryOneOut 3 s (([.ref (a 0), .int (zI p0), .int (zI en)] : List Value)).toArray wsX6_carryOneOut RX6 := ⟨hx, hb, hml, hown, hts⟩
  have hin6 : ∀ w ∈ wsX60, w ∈ wsX6_carryOneOut := by decide +kernel
  have hS : va_S (eC a) s.heap s.heap [] := va_S.rf
  have hl := lv_entry ([.ref (a 0), .int (zI p0), .int (zI en)]) (n := 3) (Nat.le_of_ble_eq_true rfl)
  rw [lg_entry_eq]
  generalize (lg_sl ([.ref (a 0), .int (zI p0), .int (zI en)]) ++ List.replicate (3 - (lg_sl ([.ref (a 0), .int (zI p0), .int (zI en)])).length) Slot.unset).toArray = ls at hl ⊢
  have hl : lv_has ls 3 [(0, .ref (a 0)), (1, .int (zI p0)), (2, .int (zI en))] := hl
  have h7 := hg.1.1
  have h8 := hg.1.2.1
  have hle := ord_le h0 (show 0 ≤ ordE pd ln p0 by omega)
  refine lv_aload_n hx hb dX6_carryOneOut_0 rfl (lv_at hl 0 rfl) ?_
  refine e_g_pad S hin6 hK hE (hts (.fieldLink RX6 26 "EnergyDiscs" "pad" "LEnergyDiscs$Pad;") (by decide +kernel)) dX6_carryOneOut_1 ?_
  refine lv_iload_n hx hb dX6_carryOneOut_4 rfl (lv_at hl 1 rfl) ?_
  refine x_callVR (As := [.int (zI p0)]) (rest := []) S hK (c_X5_signAt l D cs (epd a) pd ln p0 (by omega) (by omega)) (cwV 1 hts gX6_carryOneOut_X5_signAt rfl rfl rfl (by decide +kernel) ⟨(Nat.le_of_ble_eq_true rfl), (Nat.le_of_ble_eq_true rfl)⟩) (x_rc hK (pAt_0 (eAt_P hE)) rfl) (eAt_P hE) rfl hl.1 (Nat.le_of_ble_eq_true rfl) dX6_carryOneOut_5 ⟨Nat.zero_le _, Nat.zero_le _⟩ ?_
  have hsg := sgA_rng (ln := ln) (k := p0) hp0
  have hd1 := dgS_rng pd ln (p0 + 1)
  have hn1 := numA_rng pd ln (p0 + 1) (by omega)
  have hn3 := numA_rng pd ln (p0 + 3) (by omega)
  by_cases k_8_98 : sgA pd ln p0 = 98
  · refine x_look (off := 149) (tgt := 157) hx hb dX6_carryOneOut_8 (by decide) (by rw [k_8_98]; rfl) (by omega) (by decide) ?_
    have hc := sg_cd k_8_98 (by decide)
    have ho := ord_98 (Or.inl hc) h0 (by omega)
    have hw : whN τ pd ln p0 = wnT τ (dgS pd ln (p0 + 1)) := by unfold whN; rw [if_neg (by omega), if_neg (by omega), if_neg (by omega), if_neg (by omega), if_pos hc]
    refine lv_aload_n hx hb dX6_carryOneOut_157 rfl (lv_at hl 0 rfl) ?_
    refine e_g_house S hin6 hK hE (hts (.fieldLink RX6 10 "EnergyDiscs" "house" "LEnergyDiscs$House;") (by decide +kernel)) dX6_carryOneOut_158 ?_
    refine lv_aload_n hx hb dX6_carryOneOut_161 rfl (lv_at hl 0 rfl) ?_
    refine e_g_pad S hin6 hK hE (hts (.fieldLink RX6 26 "EnergyDiscs" "pad" "LEnergyDiscs$Pad;") (by decide +kernel)) dX6_carryOneOut_162 ?_
    refine lv_iload_n hx hb dX6_carryOneOut_165 rfl (lv_at hl 1 rfl) ?_
    refine x_iconst hx hb dX6_carryOneOut_166 ?_
    refine x_iadd hx hb dX6_carryOneOut_167 ?_
    refine lv_iload_n hx hb dX6_carryOneOut_168 rfl (lv_at hl 2 rfl) ?_
    refine x_callVR (As := [.int (zI (p0 + 1)), .int (zI en)]) (rest := [.ref (ehs a 0 0)]) S hK (c_X5_numberIn l D cs (epd a) pd ln (p0 + 1) en (by omega) (by omega)) (cwV 2 hts gX6_carryOneOut_X5_numberIn rfl rfl rfl (by decide +kernel) ⟨(Nat.le_of_ble_eq_true rfl), (Nat.le_of_ble_eq_true rfl)⟩) (x_rc hK (pAt_0 (eAt_P hE)) rfl) (eAt_P hE) rfl hl.1 (Nat.le_of_ble_eq_true rfl) dX6_carryOneOut_169 ⟨Nat.zero_le _, Nat.zero_le _⟩ ?_
    rw [show (cnv pd ln (p0 + 1) (en - (p0 + 1)).toNat : Int) = dgS pd ln (p0 + 1) from by exact cnv_dig (by omega) (by omega) (by omega)]
    refine x_callVM (As := [.int (zI (dgS pd ln (p0 + 1)))]) (rest := []) S hK (c_X2_breakSeal_ok l D cs (ehs a 0) τ (dgS pd ln (p0 + 1)) (by omega) (by omega) (by exact fun a b => (dOK_0 (hg.2.2 _ a b)).2.2.2) (by omega) (by exact eI_H hI (by decide))) (cwV 1 hts gX6_carryOneOut_X2_breakSeal rfl rfl rfl (by decide +kernel) ⟨(Nat.le_of_ble_eq_true rfl), (Nat.le_of_ble_eq_true rfl)⟩) (x_rc hK (hsAt_0 (hAt_hs (eAt_H hE))) rfl) (eAt_H hE) rfl hl.1 (Nat.le_of_ble_eq_true rfl) dX6_carryOneOut_172 ⟨Nat.zero_le _, Nat.zero_le _⟩ hS (eC_H (by decide)) (fun H locs hB hF hS => ?_)
    have hE : eAt D cs a (bsF τ (dgS pd ln (p0 + 1))) ss hh pr pd ln fr kp su H := eAt_setH hE hI hB hF
    exact x_iretM hx hb hr hlocks (by first | exact (if_pos hc).symm | exact (((if_neg (by omega)).trans (if_pos hc))).symm | exact (((if_neg (by omega)).trans ((if_neg (by omega)).trans (if_pos hc)))).symm | exact (((if_neg (by omega)).trans ((if_neg (by omega)).trans ((if_neg (by omega)).trans (if_pos hc))))).symm | exact (((if_neg (by omega)).trans ((if_neg (by omega)).trans ((if_neg (by omega)).trans ((if_neg (by omega)).trans (if_pos hc)))))).symm | exact (((if_neg (by omega)).trans ((if_neg (by omega)).trans ((if_neg (by omega)).trans ((if_neg (by omega)).trans (if_neg (by omega))))))).symm) (eAt_cong hE (by first | exact (if_pos hc).symm | exact (((if_neg (by omega)).trans (if_pos hc))).symm | exact (((if_neg (by omega)).trans ((if_neg (by omega)).trans (if_pos hc)))).symm | exact (((if_neg (by omega)).trans ((if_neg (by omega)).trans ((if_neg (by omega)).trans (if_pos hc))))).symm | exact (((if_neg (by omega)).trans ((if_neg (by omega)).trans ((if_neg (by omega)).trans ((if_neg (by omega)).trans (if_pos hc)))))).symm | exact (((if_neg (by omega)).trans ((if_neg (by omega)).trans ((if_neg (by omega)).trans ((if_neg (by omega)).trans (if_neg (by omega))))))).symm) rfl rfl rfl rfl rfl rfl rfl rfl) hS dX6_carryOneOut_175
  by_cases k_8_108 : sgA pd ln p0 = 108
  · refine x_look (off := 79) (tgt := 87) hx hb dX6_carryOneOut_8 (by decide) (by rw [k_8_108]; rfl) (by omega) (by decide) ?_
    have hc := sg_cd k_8_108 (by decide)
    have ho := ord_108 hc h0 (by omega)
    have hw : whN τ pd ln p0 = wnL τ (dgS pd ln (p0 + 1)) (numA pd ln (p0 + 3)) := by unfold whN; rw [if_neg (by omega), if_pos hc]
    refine lv_aload_n hx hb dX6_carryOneOut_87 rfl (lv_at hl 0 rfl) ?_
    refine e_g_house S hin6 hK hE (hts (.fieldLink RX6 10 "EnergyDiscs" "house" "LEnergyDiscs$House;") (by decide +kernel)) dX6_carryOneOut_88 ?_
    refine lv_aload_n hx hb dX6_carryOneOut_91 rfl (lv_at hl 0 rfl) ?_
    refine e_g_pad S hin6 hK hE (hts (.fieldLink RX6 26 "EnergyDiscs" "pad" "LEnergyDiscs$Pad;") (by decide +kernel)) dX6_carryOneOut_92 ?_
    refine lv_iload_n hx hb dX6_carryOneOut_95 rfl (lv_at hl 1 rfl) ?_
    refine x_iconst hx hb dX6_carryOneOut_96 ?_
    refine x_iadd hx hb dX6_carryOneOut_97 ?_
    refine lv_iload_n hx hb dX6_carryOneOut_98 rfl (lv_at hl 1 rfl) ?_
    refine x_iconst hx hb dX6_carryOneOut_99 ?_
    refine x_iadd hx hb dX6_carryOneOut_100 ?_
    refine x_callVR (As := [.int (zI (p0 + 1)), .int (zI (p0 + 2))]) (rest := [.ref (ehs a 0 0)]) S hK (c_X5_numberIn l D cs (epd a) pd ln (p0 + 1) (p0 + 2) (by omega) (by omega)) (cwV 2 hts gX6_carryOneOut_X5_numberIn rfl rfl rfl (by decide +kernel) ⟨(Nat.le_of_ble_eq_true rfl), (Nat.le_of_ble_eq_true rfl)⟩) (x_rc hK (pAt_0 (eAt_P hE)) rfl) (eAt_P hE) rfl hl.1 (Nat.le_of_ble_eq_true rfl) dX6_carryOneOut_101 ⟨Nat.zero_le _, Nat.zero_le _⟩ ?_
    rw [show (cnv pd ln (p0 + 1) ((p0 + 2) - (p0 + 1)).toNat : Int) = dgS pd ln (p0 + 1) from by exact cnv_dig (by omega) (by omega) (by omega)]
    refine lv_aload_n hx hb dX6_carryOneOut_104 rfl (lv_at hl 0 rfl) ?_
    refine e_g_pad S hin6 hK hE (hts (.fieldLink RX6 26 "EnergyDiscs" "pad" "LEnergyDiscs$Pad;") (by decide +kernel)) dX6_carryOneOut_105 ?_
    refine lv_iload_n hx hb dX6_carryOneOut_108 rfl (lv_at hl 1 rfl) ?_
    refine x_iconst hx hb dX6_carryOneOut_109 ?_
    refine x_iadd hx hb dX6_carryOneOut_110 ?_
    refine lv_iload_n hx hb dX6_carryOneOut_111 rfl (lv_at hl 2 rfl) ?_
    refine x_callVR (As := [.int (zI (p0 + 3)), .int (zI en)]) (rest := [.int (zI (dgS pd ln (p0 + 1))), .ref (ehs a 0 0)]) S hK (c_X5_numberIn l D cs (epd a) pd ln (p0 + 3) en (by omega) (by omega)) (cwV 2 hts gX6_carryOneOut_X5_numberIn rfl rfl rfl (by decide +kernel) ⟨(Nat.le_of_ble_eq_true rfl), (Nat.le_of_ble_eq_true rfl)⟩) (x_rc hK (pAt_0 (eAt_P hE)) rfl) (eAt_P hE) rfl hl.1 (Nat.le_of_ble_eq_true rfl) dX6_carryOneOut_112 ⟨Nat.zero_le _, Nat.zero_le _⟩ ?_
    rw [show (cnv pd ln (p0 + 3) (en - (p0 + 3)).toNat : Int) = numA pd ln (p0 + 3) from by have e := cnv_num (pd := pd) (ln := ln) (p := p0 + 3) (by omega) (by omega); rw [show (en - (p0 + 3)).toNat = (nend pd ln (p0 + 3) - (p0 + 3)).toNat by omega]; exact e]
    refine x_callVM (As := [.int (zI (dgS pd ln (p0 + 1))), .int (zI (numA pd ln (p0 + 3)))]) (rest := []) S hK (c_X2_addLoad_ok l D cs (ehs a 0) τ (dgS pd ln (p0 + 1)) (numA pd ln (p0 + 3)) (by omega) (by omega) (by omega) (by omega) (by omega) (by exact eI_H hI (by decide))) (cwV 2 hts gX6_carryOneOut_X2_addLoad rfl rfl rfl (by decide +kernel) ⟨(Nat.le_of_ble_eq_true rfl), (Nat.le_of_ble_eq_true rfl)⟩) (x_rc hK (hsAt_0 (hAt_hs (eAt_H hE))) rfl) (eAt_H hE) rfl hl.1 (Nat.le_of_ble_eq_true rfl) dX6_carryOneOut_115 ⟨Nat.zero_le _, Nat.zero_le _⟩ hS (eC_H (by decide)) (fun H locs hB hF hS => ?_)
    have hE : eAt D cs a (alF τ (dgS pd ln (p0 + 1)) (numA pd ln (p0 + 3))) ss hh pr pd ln fr kp su H := eAt_setH hE hI hB hF
    exact x_iretM hx hb hr hlocks (by first | exact (if_pos hc).symm | exact (((if_neg (by omega)).trans (if_pos hc))).symm | exact (((if_neg (by omega)).trans ((if_neg (by omega)).trans (if_pos hc)))).symm | exact (((if_neg (by omega)).trans ((if_neg (by omega)).trans ((if_neg (by omega)).trans (if_pos hc))))).symm | exact (((if_neg (by omega)).trans ((if_neg (by omega)).trans ((if_neg (by omega)).trans ((if_neg (by omega)).trans (if_pos hc)))))).symm | exact (((if_neg (by omega)).trans ((if_neg (by omega)).trans ((if_neg (by omega)).trans ((if_neg (by omega)).trans (if_neg (by omega))))))).symm) (eAt_cong hE (by first | exact (if_pos hc).symm | exact (((if_neg (by omega)).trans (if_pos hc))).symm | exact (((if_neg (by omega)).trans ((if_neg (by omega)).trans (if_pos hc)))).symm | exact (((if_neg (by omega)).trans ((if_neg (by omega)).trans ((if_neg (by omega)).trans (if_pos hc))))).symm | exact (((if_neg (by omega)).trans ((if_neg (by omega)).trans ((if_neg (by omega)).trans ((if_neg (by omega)).trans (if_pos hc)))))).symm | exact (((if_neg (by omega)).trans ((if_neg (by omega)).trans ((if_neg (by omega)).trans ((if_neg (by omega)).trans (if_neg (by omega))))))).symm) rfl rfl rfl rfl rfl rfl rfl rfl) hS dX6_carryOneOut_118
  by_cases k_8_109 : sgA pd ln p0 = 109
  · refine x_look (off := 60) (tgt := 68) hx hb dX6_carryOneOut_8 (by decide) (by rw [k_8_109]; rfl) (by omega) (by decide) ?_
    have hc := sg_cd k_8_109 (by decide)
    have ho := ord_109 hc
    have hw : whN τ pd ln p0 = wnM τ (if dgS pd ln (p0 + 1) < 0 then 0 else dgS pd ln (p0 + 1)) := if_pos hc
    have hkr : 0 ≤ (if dgS pd ln (p0 + 1) < 0 then 0 else dgS pd ln (p0 + 1)) ∧ (if dgS pd ln (p0 + 1) < 0 then 0 else dgS pd ln (p0 + 1)) ≤ 9 := by split <;> omega
    refine lv_aload_n hx hb dX6_carryOneOut_68 rfl (lv_at hl 0 rfl) ?_
    refine e_g_house S hin6 hK hE (hts (.fieldLink RX6 10 "EnergyDiscs" "house" "LEnergyDiscs$House;") (by decide +kernel)) dX6_carryOneOut_69 ?_
    refine lv_aload_n hx hb dX6_carryOneOut_72 rfl (lv_at hl 0 rfl) ?_
    refine e_g_pad S hin6 hK hE (hts (.fieldLink RX6 26 "EnergyDiscs" "pad" "LEnergyDiscs$Pad;") (by decide +kernel)) dX6_carryOneOut_73 ?_
    refine lv_iload_n hx hb dX6_carryOneOut_76 rfl (lv_at hl 1 rfl) ?_
    refine x_iconst hx hb dX6_carryOneOut_77 ?_
    refine x_iadd hx hb dX6_carryOneOut_78 ?_
    refine lv_iload_n hx hb dX6_carryOneOut_79 rfl (lv_at hl 2 rfl) ?_
    refine x_callVR (As := [.int (zI (p0 + 1)), .int (zI en)]) (rest := [.ref (ehs a 0 0)]) S hK (c_X5_numberIn l D cs (epd a) pd ln (p0 + 1) en (by omega) (by omega)) (cwV 2 hts gX6_carryOneOut_X5_numberIn rfl rfl rfl (by decide +kernel) ⟨(Nat.le_of_ble_eq_true rfl), (Nat.le_of_ble_eq_true rfl)⟩) (x_rc hK (pAt_0 (eAt_P hE)) rfl) (eAt_P hE) rfl hl.1 (Nat.le_of_ble_eq_true rfl) dX6_carryOneOut_80 ⟨Nat.zero_le _, Nat.zero_le _⟩ ?_
    rw [show (cnv pd ln (p0 + 1) (en - (p0 + 1)).toNat : Int) = if dgS pd ln (p0 + 1) < 0 then 0 else dgS pd ln (p0 + 1) from by exact cnv_m h0 (by omega)]
    refine x_callVM (As := [.int (zI (if dgS pd ln (p0 + 1) < 0 then 0 else dgS pd ln (p0 + 1)))]) (rest := []) S hK (c_X2_addMeter_ok l D cs (ehs a 0) τ (if dgS pd ln (p0 + 1) < 0 then 0 else dgS pd ln (p0 + 1)) (by omega) (by omega) (by omega) (by exact eI_H hI (by decide))) (cwV 1 hts gX6_carryOneOut_X2_addMeter rfl rfl rfl (by decide +kernel) ⟨(Nat.le_of_ble_eq_true rfl), (Nat.le_of_ble_eq_true rfl)⟩) (x_rc hK (hsAt_0 (hAt_hs (eAt_H hE))) rfl) (eAt_H hE) rfl hl.1 (Nat.le_of_ble_eq_true rfl) dX6_carryOneOut_83 ⟨Nat.zero_le _, Nat.zero_le _⟩ hS (eC_H (by decide)) (fun H locs hB hF hS => ?_)
    have hE : eAt D cs a (amF τ (if dgS pd ln (p0 + 1) < 0 then 0 else dgS pd ln (p0 + 1))) ss hh pr pd ln fr kp su H := eAt_setH hE hI hB hF
    exact x_iretM hx hb hr hlocks (by first | exact (if_pos hc).symm | exact (((if_neg (by omega)).trans (if_pos hc))).symm | exact (((if_neg (by omega)).trans ((if_neg (by omega)).trans (if_pos hc)))).symm | exact (((if_neg (by omega)).trans ((if_neg (by omega)).trans ((if_neg (by omega)).trans (if_pos hc))))).symm | exact (((if_neg (by omega)).trans ((if_neg (by omega)).trans ((if_neg (by omega)).trans ((if_neg (by omega)).trans (if_pos hc)))))).symm | exact (((if_neg (by omega)).trans ((if_neg (by omega)).trans ((if_neg (by omega)).trans ((if_neg (by omega)).trans (if_neg (by omega))))))).symm) (eAt_cong hE (by first | exact (if_pos hc).symm | exact (((if_neg (by omega)).trans (if_pos hc))).symm | exact (((if_neg (by omega)).trans ((if_neg (by omega)).trans (if_pos hc)))).symm | exact (((if_neg (by omega)).trans ((if_neg (by omega)).trans ((if_neg (by omega)).trans (if_pos hc))))).symm | exact (((if_neg (by omega)).trans ((if_neg (by omega)).trans ((if_neg (by omega)).trans ((if_neg (by omega)).trans (if_pos hc)))))).symm | exact (((if_neg (by omega)).trans ((if_neg (by omega)).trans ((if_neg (by omega)).trans ((if_neg (by omega)).trans (if_neg (by omega))))))).symm) rfl rfl rfl rfl rfl rfl rfl rfl) hS dX6_carryOneOut_86
  by_cases k_8_115 : sgA pd ln p0 = 115
  · refine x_look (off := 111) (tgt := 119) hx hb dX6_carryOneOut_8 (by decide) (by rw [k_8_115]; rfl) (by omega) (by decide) ?_
    have hc := sg_cd k_8_115 (by decide)
    have ho := ord_115 (Or.inl hc)
    have hnd := nend_rng pd ln (p0 + 1)
    have hw : whN τ pd ln p0 = if 0 ≤ numA pd ln (p0 + 1) ∧ numA pd ln (p0 + 1) < τ 8 then 0 else -1 := by unfold whN; rw [if_neg (by omega), if_neg (by omega), if_pos hc]
    refine lv_aload_n hx hb dX6_carryOneOut_119 rfl (lv_at hl 0 rfl) ?_
    refine e_g_house S hin6 hK hE (hts (.fieldLink RX6 10 "EnergyDiscs" "house" "LEnergyDiscs$House;") (by decide +kernel)) dX6_carryOneOut_120 ?_
    refine lv_aload_n hx hb dX6_carryOneOut_123 rfl (lv_at hl 0 rfl) ?_
    refine e_g_pad S hin6 hK hE (hts (.fieldLink RX6 26 "EnergyDiscs" "pad" "LEnergyDiscs$Pad;") (by decide +kernel)) dX6_carryOneOut_124 ?_
    refine lv_iload_n hx hb dX6_carryOneOut_127 rfl (lv_at hl 1 rfl) ?_
    refine x_iconst hx hb dX6_carryOneOut_128 ?_
    refine x_iadd hx hb dX6_carryOneOut_129 ?_
    refine lv_iload_n hx hb dX6_carryOneOut_130 rfl (lv_at hl 2 rfl) ?_
    refine x_callVR (As := [.int (zI (p0 + 1)), .int (zI en)]) (rest := [.ref (ehs a 0 0)]) S hK (c_X5_numberIn l D cs (epd a) pd ln (p0 + 1) en (by omega) (by omega)) (cwV 2 hts gX6_carryOneOut_X5_numberIn rfl rfl rfl (by decide +kernel) ⟨(Nat.le_of_ble_eq_true rfl), (Nat.le_of_ble_eq_true rfl)⟩) (x_rc hK (pAt_0 (eAt_P hE)) rfl) (eAt_P hE) rfl hl.1 (Nat.le_of_ble_eq_true rfl) dX6_carryOneOut_131 ⟨Nat.zero_le _, Nat.zero_le _⟩ ?_
    rw [show (cnv pd ln (p0 + 1) (en - (p0 + 1)).toNat : Int) = numA pd ln (p0 + 1) from by have e := cnv_num (pd := pd) (ln := ln) (p := p0 + 1) (by omega) (by omega); rw [show (en - (p0 + 1)).toNat = (nend pd ln (p0 + 1) - (p0 + 1)).toNat by omega]; exact e]
    refine x_callVM (As := [.int (zI (numA pd ln (p0 + 1)))]) (rest := []) S hK (c_X2_switchLoad_ok l D cs (ehs a 0) τ (numA pd ln (p0 + 1)) (by omega) (by exact Classical.byContradiction fun q => by rw [if_neg q] at hw; omega) (by exact (hg.1.2.2.2 (numA pd ln (p0 + 1)) (by omega) (Classical.byContradiction fun q => by rw [if_neg (fun w => q w.2)] at hw; omega)).2.2) (by exact eI_H hI (by decide))) (cwV 1 hts gX6_carryOneOut_X2_switchLoad rfl rfl rfl (by decide +kernel) ⟨(Nat.le_of_ble_eq_true rfl), (Nat.le_of_ble_eq_true rfl)⟩) (x_rc hK (hsAt_0 (hAt_hs (eAt_H hE))) rfl) (eAt_H hE) rfl hl.1 (Nat.le_of_ble_eq_true rfl) dX6_carryOneOut_134 ⟨Nat.zero_le _, Nat.zero_le _⟩ hS (eC_H (by decide)) (fun H locs hB hF hS => ?_)
    have hE : eAt D cs a (swF τ (numA pd ln (p0 + 1))) ss hh pr pd ln fr kp su H := eAt_setH hE hI hB hF
    exact x_iretM hx hb hr hlocks (by first | exact (if_pos hc).symm | exact (((if_neg (by omega)).trans (if_pos hc))).symm | exact (((if_neg (by omega)).trans ((if_neg (by omega)).trans (if_pos hc)))).symm | exact (((if_neg (by omega)).trans ((if_neg (by omega)).trans ((if_neg (by omega)).trans (if_pos hc))))).symm | exact (((if_neg (by omega)).trans ((if_neg (by omega)).trans ((if_neg (by omega)).trans ((if_neg (by omega)).trans (if_pos hc)))))).symm | exact (((if_neg (by omega)).trans ((if_neg (by omega)).trans ((if_neg (by omega)).trans ((if_neg (by omega)).trans (if_neg (by omega))))))).symm) (eAt_cong hE (by first | exact (if_pos hc).symm | exact (((if_neg (by omega)).trans (if_pos hc))).symm | exact (((if_neg (by omega)).trans ((if_neg (by omega)).trans (if_pos hc)))).symm | exact (((if_neg (by omega)).trans ((if_neg (by omega)).trans ((if_neg (by omega)).trans (if_pos hc))))).symm | exact (((if_neg (by omega)).trans ((if_neg (by omega)).trans ((if_neg (by omega)).trans ((if_neg (by omega)).trans (if_pos hc)))))).symm | exact (((if_neg (by omega)).trans ((if_neg (by omega)).trans ((if_neg (by omega)).trans ((if_neg (by omega)).trans (if_neg (by omega))))))).symm) rfl rfl rfl rfl rfl rfl rfl rfl) hS dX6_carryOneOut_137
  by_cases k_8_116 : sgA pd ln p0 = 116
  · refine x_look (off := 130) (tgt := 138) hx hb dX6_carryOneOut_8 (by decide) (by rw [k_8_116]; rfl) (by omega) (by decide) ?_
    have hc := sg_cd k_8_116 (by decide)
    have ho := ord_115 (Or.inr hc)
    have hnd := nend_rng pd ln (p0 + 1)
    have hw : whN τ pd ln p0 = wnP τ (numA pd ln (p0 + 1)) := by unfold whN; rw [if_neg (by omega), if_neg (by omega), if_neg (by omega), if_pos hc]
    refine lv_aload_n hx hb dX6_carryOneOut_138 rfl (lv_at hl 0 rfl) ?_
    refine e_g_house S hin6 hK hE (hts (.fieldLink RX6 10 "EnergyDiscs" "house" "LEnergyDiscs$House;") (by decide +kernel)) dX6_carryOneOut_139 ?_
    refine lv_aload_n hx hb dX6_carryOneOut_142 rfl (lv_at hl 0 rfl) ?_
    refine e_g_pad S hin6 hK hE (hts (.fieldLink RX6 26 "EnergyDiscs" "pad" "LEnergyDiscs$Pad;") (by decide +kernel)) dX6_carryOneOut_143 ?_
    refine lv_iload_n hx hb dX6_carryOneOut_146 rfl (lv_at hl 1 rfl) ?_
    refine x_iconst hx hb dX6_carryOneOut_147 ?_
    refine x_iadd hx hb dX6_carryOneOut_148 ?_
    refine lv_iload_n hx hb dX6_carryOneOut_149 rfl (lv_at hl 2 rfl) ?_
    refine x_callVR (As := [.int (zI (p0 + 1)), .int (zI en)]) (rest := [.ref (ehs a 0 0)]) S hK (c_X5_numberIn l D cs (epd a) pd ln (p0 + 1) en (by omega) (by omega)) (cwV 2 hts gX6_carryOneOut_X5_numberIn rfl rfl rfl (by decide +kernel) ⟨(Nat.le_of_ble_eq_true rfl), (Nat.le_of_ble_eq_true rfl)⟩) (x_rc hK (pAt_0 (eAt_P hE)) rfl) (eAt_P hE) rfl hl.1 (Nat.le_of_ble_eq_true rfl) dX6_carryOneOut_150 ⟨Nat.zero_le _, Nat.zero_le _⟩ ?_
    rw [show (cnv pd ln (p0 + 1) (en - (p0 + 1)).toNat : Int) = numA pd ln (p0 + 1) from by have e := cnv_num (pd := pd) (ln := ln) (p := p0 + 1) (by omega) (by omega); rw [show (en - (p0 + 1)).toNat = (nend pd ln (p0 + 1) - (p0 + 1)).toNat by omega]; exact e]
    refine x_callVM (As := [.int (zI (numA pd ln (p0 + 1)))]) (rest := []) S hK (c_X2_elapse_ok l D cs (ehs a 0) τ (numA pd ln (p0 + 1)) (by omega) (by exact hg) (by omega) (by exact eI_H hI (by decide))) (cwV 1 hts gX6_carryOneOut_X2_elapse rfl rfl rfl (by decide +kernel) ⟨(Nat.le_of_ble_eq_true rfl), (Nat.le_of_ble_eq_true rfl)⟩) (x_rc hK (hsAt_0 (hAt_hs (eAt_H hE))) rfl) (eAt_H hE) rfl hl.1 (Nat.le_of_ble_eq_true rfl) dX6_carryOneOut_153 ⟨Nat.zero_le _, Nat.zero_le _⟩ hS (eC_H (by decide)) (fun H locs hB hF hS => ?_)
    have hE : eAt D cs a (elF τ (numA pd ln (p0 + 1))) ss hh pr pd ln fr kp su H := eAt_setH hE hI hB hF
    exact x_iretM hx hb hr hlocks (by first | exact (if_pos hc).symm | exact (((if_neg (by omega)).trans (if_pos hc))).symm | exact (((if_neg (by omega)).trans ((if_neg (by omega)).trans (if_pos hc)))).symm | exact (((if_neg (by omega)).trans ((if_neg (by omega)).trans ((if_neg (by omega)).trans (if_pos hc))))).symm | exact (((if_neg (by omega)).trans ((if_neg (by omega)).trans ((if_neg (by omega)).trans ((if_neg (by omega)).trans (if_pos hc)))))).symm | exact (((if_neg (by omega)).trans ((if_neg (by omega)).trans ((if_neg (by omega)).trans ((if_neg (by omega)).trans (if_neg (by omega))))))).symm) (eAt_cong hE (by first | exact (if_pos hc).symm | exact (((if_neg (by omega)).trans (if_pos hc))).symm | exact (((if_neg (by omega)).trans ((if_neg (by omega)).trans (if_pos hc)))).symm | exact (((if_neg (by omega)).trans ((if_neg (by omega)).trans ((if_neg (by omega)).trans (if_pos hc))))).symm | exact (((if_neg (by omega)).trans ((if_neg (by omega)).trans ((if_neg (by omega)).trans ((if_neg (by omega)).trans (if_pos hc)))))).symm | exact (((if_neg (by omega)).trans ((if_neg (by omega)).trans ((if_neg (by omega)).trans ((if_neg (by omega)).trans (if_neg (by omega))))))).symm) rfl rfl rfl rfl rfl rfl rfl rfl) hS dX6_carryOneOut_156
  by_cases k_8_118 : sgA pd ln p0 = 118
  · refine x_look (off := 168) (tgt := 176) hx hb dX6_carryOneOut_8 (by decide) (by rw [k_8_118]; rfl) (by omega) (by decide) ?_
    have hc := sg_cd k_8_118 (by decide)
    have ho := ord_98 (Or.inr hc) h0 (by omega)
    have hw : whN τ pd ln p0 = if 0 ≤ dgS pd ln (p0 + 1) ∧ dgS pd ln (p0 + 1) < τ 7 then 0 else -1 := by unfold whN; rw [if_neg (by omega), if_neg (by omega), if_neg (by omega), if_neg (by omega), if_neg (by omega)]
    refine lv_aload_n hx hb dX6_carryOneOut_176 rfl (lv_at hl 0 rfl) ?_
    refine e_g_house S hin6 hK hE (hts (.fieldLink RX6 10 "EnergyDiscs" "house" "LEnergyDiscs$House;") (by decide +kernel)) dX6_carryOneOut_177 ?_
    refine lv_aload_n hx hb dX6_carryOneOut_180 rfl (lv_at hl 0 rfl) ?_
    refine e_g_pad S hin6 hK hE (hts (.fieldLink RX6 26 "EnergyDiscs" "pad" "LEnergyDiscs$Pad;") (by decide +kernel)) dX6_carryOneOut_181 ?_
    refine lv_iload_n hx hb dX6_carryOneOut_184 rfl (lv_at hl 1 rfl) ?_
    refine x_iconst hx hb dX6_carryOneOut_185 ?_
    refine x_iadd hx hb dX6_carryOneOut_186 ?_
    refine lv_iload_n hx hb dX6_carryOneOut_187 rfl (lv_at hl 2 rfl) ?_
    refine x_callVR (As := [.int (zI (p0 + 1)), .int (zI en)]) (rest := [.ref (ehs a 0 0)]) S hK (c_X5_numberIn l D cs (epd a) pd ln (p0 + 1) en (by omega) (by omega)) (cwV 2 hts gX6_carryOneOut_X5_numberIn rfl rfl rfl (by decide +kernel) ⟨(Nat.le_of_ble_eq_true rfl), (Nat.le_of_ble_eq_true rfl)⟩) (x_rc hK (pAt_0 (eAt_P hE)) rfl) (eAt_P hE) rfl hl.1 (Nat.le_of_ble_eq_true rfl) dX6_carryOneOut_188 ⟨Nat.zero_le _, Nat.zero_le _⟩ ?_
    rw [show (cnv pd ln (p0 + 1) (en - (p0 + 1)).toNat : Int) = dgS pd ln (p0 + 1) from by exact cnv_dig (by omega) (by omega) (by omega)]
    refine x_callVM (As := [.int (zI (dgS pd ln (p0 + 1)))]) (rest := []) S hK (c_X2_inspect_ok l D cs (ehs a 0) τ (dgS pd ln (p0 + 1)) (by omega) (by exact Classical.byContradiction fun q => by rw [if_neg q] at hw; omega) (by exact (dOK_0 (hg.2.2 (dgS pd ln (p0 + 1)) (by omega) (Classical.byContradiction fun q => by rw [if_neg (fun w => q w.2)] at hw; omega))).2.2.2) (by exact eI_H hI (by decide))) (cwV 1 hts gX6_carryOneOut_X2_inspect rfl rfl rfl (by decide +kernel) ⟨(Nat.le_of_ble_eq_true rfl), (Nat.le_of_ble_eq_true rfl)⟩) (x_rc hK (hsAt_0 (hAt_hs (eAt_H hE))) rfl) (eAt_H hE) rfl hl.1 (Nat.le_of_ble_eq_true rfl) dX6_carryOneOut_191 ⟨Nat.zero_le _, Nat.zero_le _⟩ hS (eC_H (by decide)) (fun H locs hB hF hS => ?_)
    have hE : eAt D cs a (inF τ (dgS pd ln (p0 + 1))) ss hh pr pd ln fr kp su H := eAt_setH hE hI hB hF
    exact x_iretM hx hb hr hlocks (by first | exact (if_pos hc).symm | exact (((if_neg (by omega)).trans (if_pos hc))).symm | exact (((if_neg (by omega)).trans ((if_neg (by omega)).trans (if_pos hc)))).symm | exact (((if_neg (by omega)).trans ((if_neg (by omega)).trans ((if_neg (by omega)).trans (if_pos hc))))).symm | exact (((if_neg (by omega)).trans ((if_neg (by omega)).trans ((if_neg (by omega)).trans ((if_neg (by omega)).trans (if_pos hc)))))).symm | exact (((if_neg (by omega)).trans ((if_neg (by omega)).trans ((if_neg (by omega)).trans ((if_neg (by omega)).trans (if_neg (by omega))))))).symm) (eAt_cong hE (by first | exact (if_pos hc).symm | exact (((if_neg (by omega)).trans (if_pos hc))).symm | exact (((if_neg (by omega)).trans ((if_neg (by omega)).trans (if_pos hc)))).symm | exact (((if_neg (by omega)).trans ((if_neg (by omega)).trans ((if_neg (by omega)).trans (if_pos hc))))).symm | exact (((if_neg (by omega)).trans ((if_neg (by omega)).trans ((if_neg (by omega)).trans ((if_neg (by omega)).trans (if_pos hc)))))).symm | exact (((if_neg (by omega)).trans ((if_neg (by omega)).trans ((if_neg (by omega)).trans ((if_neg (by omega)).trans (if_neg (by omega))))))).symm) rfl rfl rfl rfl rfl rfl rfl rfl) hS dX6_carryOneOut_194
  refine x_look (off := 187) (tgt := 195) hx hb dX6_carryOneOut_8 (by decide) (by simp [Op.lookupswitch.offset_cons, Op.lookupswitch.offset_nil, Ne.symm, k_8_98, k_8_108, k_8_109, k_8_115, k_8_116, k_8_118]) (by omega) (by decide) ?_
  exfalso; rcases ord_one h0 (show 0 ≤ ordE pd ln p0 by omega) with q | q | q | q | q | q <;> have := cd_sg q (by decide) h0 <;> omega
