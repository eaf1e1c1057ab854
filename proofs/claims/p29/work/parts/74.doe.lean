set_option maxHeartbeats 40000000 in
set_option maxRecDepth 100000 in
theorem l_does (l : Launch) (D : va_G) (cs : Nat → ClassId) (a : Int → Nat) (τ : Int → Int) (pd : Int → Int) (ln : Int) (v : Int) (w : Int) (Nn : Int) (N : Nat) (hG : GD Nn τ) (hI : eI a) (hN9 : Nn ≤ 999) (hT9 : τ 6 + 700 ≤ 99999) (hN : ∀ q, eC a q → N ≤ q) : kMz D cs N l yL_does wsL_does ({ frames := 7, cells := 0, slots := 0, locals := 184 } : Room) [.ref (a 0), .int (zI v), .int (zI w)] (fun H => PW D cs a τ pd ln H) (some (.int (zI 1))) (fun H => DW D cs a (Nn + 1) (τ 6 + 700) H) (eC a) := by
  refine Met.ofW (cc := cL_does) (maxL := 18) (ret := (some .boolean)) (by decide) rfl ?_
  intro p e s m args below meth c s₁ B hml hv
  obtain ⟨rfl, hK, hZ, hW⟩ := hv
  have hx := B.exec
  have hb := B.bytes
  have hr := B.returns
  have hts := atoms_spec (ws := wsL_does) B.pre
  have hown : s.vm.findClass RL = some m.cls := findClass_of_methodNamed B.named
  have hlocks := B.notSynchronized
  have S : CallFix p m c cL_does 18 s (([.ref (a 0), .int (zI v), .int (zI w)] : List Value)).toArray wsL_does RL := ⟨hx, hb, hml, hown, hts⟩
  have hS : va_S (eC a) s.heap s.heap [] := va_S.rf
  obtain ⟨⟨hw0, hw1, hw2⟩, t0, t1, t2, hZ0, hZ1, hZ2⟩ := id hZ
  have hl := lv_entry ([.ref (a 0), .int (zI v), .int (zI w)]) (n := 18) (Nat.le_of_ble_eq_true rfl)
  rw [lg_entry_eq]
  generalize (lg_sl ([.ref (a 0), .int (zI v), .int (zI w)]) ++ List.replicate (18 - (lg_sl ([.ref (a 0), .int (zI v), .int (zI w)])).length) Slot.unset).toArray = ls at hl ⊢
  have hl : lv_has ls 18 [(0, .ref (a 0)), (1, .int (zI v)), (2, .int (zI w))] := hl
  have h7 := gd_7 hG
  have h8 := gd_8 hG
  have h6 := gd_6 hG
  have h10 := gd_10 hG
  have hNn := hG.1
  refine lv_aload_n hx hb dL_does_0 rfl (lv_at hl 0 rfl) ?_
  refine x_iconst hx hb dL_does_1 ?_
  refine x_callVR (As := [.int (zI 2)]) (rest := []) S hK (p_count_2 l D cs a τ pd ln (by first | exact hG | exact hG2)) (cwV 1 hts gL_does_X6_count rfl rfl rfl (by decide +kernel) ⟨(Nat.le_of_ble_eq_true rfl), (Nat.le_of_ble_eq_true rfl)⟩) (PW_rc hK hW) hW rfl hl.1 (Nat.le_of_ble_eq_true rfl) dL_does_2 ⟨Nat.zero_le _, Nat.zero_le _⟩ ?_
  refine lv_istore_n (lv' := [(3, .int (zI (τ 7))), (0, .ref (a 0)), (1, .int (zI v)), (2, .int (zI w))]) hx hb dL_does_5 rfl hl (by decide) rfl (fun ls hl => ?_)
  refine lv_iload_n hx hb dL_does_6 rfl (lv_at hl 0 rfl) ?_
  refine x_if_ne (tgt := 14) hx hb dL_does_7 (by decide) (by omega) (fun c_7 => ?_) (fun c_7 => ?_)
  · refine lv_iload_n hx hb dL_does_14 rfl (lv_at hl 2 rfl) ?_
    refine x_iconst hx hb dL_does_15 ?_
    refine lv_ishr hx hb dL_does_16 ?_
    refine lv_topi (fun v_ ev_ => ?_)
    obtain ⟨u1, hu1, rfl⟩ : ∃ z : Int, (-2147483648 ≤ z ∧ z < 2147483648) ∧ v_ = zI z := ⟨v_.toInt, zI_rng v_, (zI_of v_).symm⟩
    clear ev_
    refine lv_iload_n hx hb dL_does_17 rfl (lv_at hl 0 rfl) ?_
    refine x_callSR (As := [.int (zI u1), .int (zI (τ 7))]) (rest := []) S hK (l_low l D cs u1 (τ 7) (by omega)) (va_cwS 2 hts gL_does_L_low rfl rfl rfl (by decide +kernel) ⟨(Nat.le_of_ble_eq_true rfl), (Nat.le_of_ble_eq_true rfl)⟩) trivial rfl hl.1 (Nat.le_of_ble_eq_true rfl) dL_does_18 ⟨Nat.zero_le _, Nat.zero_le _⟩ ?_
    have hme : (τ 7 = 0 ∧ (lowA u1 (τ 7)) = 0) ∨ (0 ≤ (lowA u1 (τ 7)) ∧ (lowA u1 (τ 7)) < τ 7) := Or.inr (lowA_rng u1 (by omega))
    refine lv_istore (lv' := [(4, .int (zI (lowA u1 (τ 7)))), (3, .int (zI (τ 7))), (0, .ref (a 0)), (1, .int (zI v)), (2, .int (zI w))]) hx hb dL_does_21 hl (by decide) rfl (fun ls hl => ?_)
    refine lv_iload_n hx hb dL_does_23 rfl (lv_at hl 3 rfl) ?_
    refine x_bipush hx hb dL_does_24 (by decide +kernel) ?_
    refine x_callSR (As := [.int (zI v), .int (zI 18)]) (rest := []) S hK (l_low l D cs v 18 (by omega)) (va_cwS 2 hts gL_does_L_low rfl rfl rfl (by decide +kernel) ⟨(Nat.le_of_ble_eq_true rfl), (Nat.le_of_ble_eq_true rfl)⟩) trivial rfl hl.1 (Nat.le_of_ble_eq_true rfl) dL_does_26 ⟨Nat.zero_le _, Nat.zero_le _⟩ ?_
    have hlw := lowA_rng v (nn := 18) (by decide)
    by_cases k_29_0 : lowA v 18 = 0
    · refine x_tabIn (k := 0) (off := 63) (tgt := 92) hx hb dL_does_29 k_29_0 (by decide) (by decide) (by decide) rfl (by decide) ?_
      have hwe := wnM_e (k := (lowA u1 (τ 7))) h7 (by omega)
      refine lv_aload_n hx hb dL_does_92 rfl (lv_at hl 2 rfl) ?_
      refine x_bipush hx hb dL_does_93 (by decide +kernel) ?_
      refine x_callVR (As := [.int (zI 8)]) (rest := []) S hK (p_count_8 l D cs a τ pd ln (by first | exact hG | exact hG2)) (cwV 1 hts gL_does_X6_count rfl rfl rfl (by decide +kernel) ⟨(Nat.le_of_ble_eq_true rfl), (Nat.le_of_ble_eq_true rfl)⟩) (PW_rc hK hW) hW rfl hl.1 (Nat.le_of_ble_eq_true rfl) dL_does_95 ⟨Nat.zero_le _, Nat.zero_le _⟩ ?_
      refine lv_istore (lv' := [(5, .int (zI (τ 10))), (4, .int (zI (lowA u1 (τ 7)))), (3, .int (zI (τ 7))), (0, .ref (a 0)), (1, .int (zI v)), (2, .int (zI w))]) hx hb dL_does_98 hl (by decide) rfl (fun ls hl => ?_)
      refine lv_aload_n hx hb dL_does_100 rfl (lv_at hl 3 rfl) ?_
      refine lv_iload hx hb dL_does_101 (lv_at hl 1 rfl) ?_
      by_cases z_103 : τ 7 = 7
      · refine x_callVM (As := [.int (zI (lowA u1 (τ 7)))]) (rest := []) S hK (p_meter_bad l D cs a τ pd ln (lowA u1 (τ 7)) (by first | exact hG | exact hG2) (by exact hI) (by first | exact hk | omega) (by omega)) (cwV 1 hts gL_does_X6_meter rfl rfl rfl (by decide +kernel) ⟨(Nat.le_of_ble_eq_true rfl), (Nat.le_of_ble_eq_true rfl)⟩) (PW_rc hK hW) hW rfl hl.1 (Nat.le_of_ble_eq_true rfl) dL_does_103 ⟨Nat.zero_le _, Nat.zero_le _⟩ hS (fun q hq => hq) (fun H locs hB hF hS => ?_)
        have hW : PW D cs a τ pd ln H := hB
        refine lv_istore (lv' := [(6, .int (zI (wnM τ (lowA u1 (τ 7))))), (5, .int (zI (τ 10))), (4, .int (zI (lowA u1 (τ 7)))), (3, .int (zI (τ 7))), (0, .ref (a 0)), (1, .int (zI v)), (2, .int (zI w))]) hx hb dL_does_106 hl (by decide) rfl (fun ls hl => ?_)
        refine lv_iload_n hx hb dL_does_108 rfl (lv_at hl 3 rfl) ?_
        refine x_bipush hx hb dL_does_109 (by decide +kernel) ?_
        refine x_icmp_ne (tgt := 129) hx hb dL_does_111 (by decide) (by omega) (by omega) (fun c_111 => ?_) (fun c_111 => ?_)
        · exfalso; omega
        · refine lv_iload hx hb dL_does_114 (lv_at hl 0 rfl) ?_
          refine x_bipush hx hb dL_does_116 (by decide +kernel) ?_
          refine x_icmp_neE (tgt := 125) hx hb dL_does_118 (by decide) (by omega) ?_
          refine x_iconst hx hb dL_does_121 ?_
          refine lv_goto (tgt := 185) hx hb dL_does_122 (by decide) ?_
          exact x_zretM hx hb hr hlocks (by first | rfl | omega) (by exact Or.inr rfl) ⟨_, _, _, hW, by first | exact hG2 | exact GD_mono hG2 (by omega) (by omega) | exact GD_mono hG (by omega) (by omega), by omega⟩ hS dL_does_185
      · obtain ⟨hG2, ⟨e7, e6⟩, e0, es, ev⟩ := mt_all hG hN9 (k := (lowA u1 (τ 7))) (by omega)
        have e00 : τ 7 = 0 → amF τ (lowA u1 (τ 7)) (11 + 13 * τ 7 + 0) = -6 := fun q => by rw [e0, if_pos q]
        have e01 : ¬ τ 7 = 0 → amF τ (lowA u1 (τ 7)) (11 + 13 * τ 7 + 0) = (lowA u1 (τ 7)) := fun q => by rw [e0, if_neg q]
        refine x_callVM (As := [.int (zI (lowA u1 (τ 7)))]) (rest := []) S hK (p_meter l D cs a τ pd ln (lowA u1 (τ 7)) (by first | exact hG | exact hG2) (by exact hI) (by first | exact hk | omega) (by omega)) (cwV 1 hts gL_does_X6_meter rfl rfl rfl (by decide +kernel) ⟨(Nat.le_of_ble_eq_true rfl), (Nat.le_of_ble_eq_true rfl)⟩) (PW_rc hK hW) hW rfl hl.1 (Nat.le_of_ble_eq_true rfl) dL_does_103 ⟨Nat.zero_le _, Nat.zero_le _⟩ hS (fun q hq => hq) (fun H locs hB hF hS => ?_)
        have hW : PW D cs a (amF τ (lowA u1 (τ 7))) pd ln H := hB
        refine lv_istore (lv' := [(6, .int (zI (τ 7))), (5, .int (zI (τ 10))), (4, .int (zI (lowA u1 (τ 7)))), (3, .int (zI (τ 7))), (0, .ref (a 0)), (1, .int (zI v)), (2, .int (zI w))]) hx hb dL_does_106 hl (by decide) rfl (fun ls hl => ?_)
        refine lv_iload_n hx hb dL_does_108 rfl (lv_at hl 3 rfl) ?_
        refine x_bipush hx hb dL_does_109 (by decide +kernel) ?_
        refine x_icmp_ne (tgt := 129) hx hb dL_does_111 (by decide) (by omega) (by omega) (fun c_111 => ?_) (fun c_111 => ?_)
        · refine lv_iload hx hb dL_does_129 (lv_at hl 0 rfl) ?_
          refine lv_iload_n hx hb dL_does_131 rfl (lv_at hl 3 rfl) ?_
          refine x_icmp_neE (tgt := 184) hx hb dL_does_132 (by decide) (by omega) ?_
          refine lv_aload_n hx hb dL_does_135 rfl (lv_at hl 4 rfl) ?_
          refine lv_iload_n hx hb dL_does_136 rfl (lv_at hl 3 rfl) ?_
          refine x_iconst hx hb dL_does_137 ?_
          refine x_callVR (As := [.int (zI (τ 7)), .int (zI 0)]) (rest := []) S hK (p_of_0 l D cs a (amF τ (lowA u1 (τ 7))) pd ln (τ 7) (by first | exact hG | exact hG2) (by first | exact hk | omega)) (cwV 2 hts gL_does_X6_of rfl rfl rfl (by decide +kernel) ⟨(Nat.le_of_ble_eq_true rfl), (Nat.le_of_ble_eq_true rfl)⟩) (PW_rc hK hW) hW rfl hl.1 (Nat.le_of_ble_eq_true rfl) dL_does_138 ⟨Nat.zero_le _, Nat.zero_le _⟩ ?_
          refine lv_iload_n hx hb dL_does_141 rfl (lv_at hl 3 rfl) ?_
          refine x_if_ne (tgt := 150) hx hb dL_does_142 (by decide) (by omega) (fun c_142 => ?_) (fun c_142 => ?_)
          · refine lv_iload hx hb dL_does_150 (lv_at hl 2 rfl) ?_
            refine x_icmp_neE (tgt := 184) hx hb dL_does_152 (by decide) (by omega) ?_
            refine lv_aload_n hx hb dL_does_155 rfl (lv_at hl 4 rfl) ?_
            refine lv_iload_n hx hb dL_does_156 rfl (lv_at hl 3 rfl) ?_
            refine x_bipush hx hb dL_does_157 (by decide +kernel) ?_
            refine x_callVR (As := [.int (zI (τ 7)), .int (zI 7)]) (rest := []) S hK (p_of_7 l D cs a (amF τ (lowA u1 (τ 7))) pd ln (τ 7) (by first | exact hG | exact hG2) (by first | exact hk | omega)) (cwV 2 hts gL_does_X6_of rfl rfl rfl (by decide +kernel) ⟨(Nat.le_of_ble_eq_true rfl), (Nat.le_of_ble_eq_true rfl)⟩) (PW_rc hK hW) hW rfl hl.1 (Nat.le_of_ble_eq_true rfl) dL_does_159 ⟨Nat.zero_le _, Nat.zero_le _⟩ ?_
            refine lv_iload hx hb dL_does_162 (lv_at hl 1 rfl) ?_
            refine x_iconst hx hb dL_does_164 ?_
            refine x_iadd hx hb dL_does_165 ?_
            refine x_icmp_neE (tgt := 184) hx hb dL_does_166 (by decide) (by omega) ?_
            refine lv_aload_n hx hb dL_does_169 rfl (lv_at hl 4 rfl) ?_
            refine lv_iload_n hx hb dL_does_170 rfl (lv_at hl 3 rfl) ?_
            refine x_iconst hx hb dL_does_171 ?_
            refine x_callVR (As := [.int (zI (τ 7)), .int (zI 3)]) (rest := []) S hK (p_of_3 l D cs a (amF τ (lowA u1 (τ 7))) pd ln (τ 7) (by first | exact hG | exact hG2) (by first | exact hk | omega)) (cwV 2 hts gL_does_X6_of rfl rfl rfl (by decide +kernel) ⟨(Nat.le_of_ble_eq_true rfl), (Nat.le_of_ble_eq_true rfl)⟩) (PW_rc hK hW) hW rfl hl.1 (Nat.le_of_ble_eq_true rfl) dL_does_172 ⟨Nat.zero_le _, Nat.zero_le _⟩ ?_
            refine x_bipush hx hb dL_does_175 (by decide +kernel) ?_
            refine x_icmp_neE (tgt := 184) hx hb dL_does_177 (by decide) (by omega) ?_
            refine x_iconst hx hb dL_does_180 ?_
            refine lv_goto (tgt := 185) hx hb dL_does_181 (by decide) ?_
            exact x_zretM hx hb hr hlocks (by first | rfl | omega) (by exact Or.inr rfl) ⟨_, _, _, hW, by first | exact hG2 | exact GD_mono hG2 (by omega) (by omega) | exact GD_mono hG (by omega) (by omega), by omega⟩ hS dL_does_185
          · exfalso; omega
        · exfalso; omega
    by_cases k_29_1 : lowA v 18 = 1
    · refine x_tabIn (k := 1) (off := 63) (tgt := 92) hx hb dL_does_29 k_29_1 (by decide) (by decide) (by decide) rfl (by decide) ?_
      have hwe := wnM_e (k := (lowA u1 (τ 7))) h7 (by omega)
      refine lv_aload_n hx hb dL_does_92 rfl (lv_at hl 2 rfl) ?_
      refine x_bipush hx hb dL_does_93 (by decide +kernel) ?_
      refine x_callVR (As := [.int (zI 8)]) (rest := []) S hK (p_count_8 l D cs a τ pd ln (by first | exact hG | exact hG2)) (cwV 1 hts gL_does_X6_count rfl rfl rfl (by decide +kernel) ⟨(Nat.le_of_ble_eq_true rfl), (Nat.le_of_ble_eq_true rfl)⟩) (PW_rc hK hW) hW rfl hl.1 (Nat.le_of_ble_eq_true rfl) dL_does_95 ⟨Nat.zero_le _, Nat.zero_le _⟩ ?_
      refine lv_istore (lv' := [(5, .int (zI (τ 10))), (4, .int (zI (lowA u1 (τ 7)))), (3, .int (zI (τ 7))), (0, .ref (a 0)), (1, .int (zI v)), (2, .int (zI w))]) hx hb dL_does_98 hl (by decide) rfl (fun ls hl => ?_)
      refine lv_aload_n hx hb dL_does_100 rfl (lv_at hl 3 rfl) ?_
      refine lv_iload hx hb dL_does_101 (lv_at hl 1 rfl) ?_
      by_cases z_103 : τ 7 = 7
      · refine x_callVM (As := [.int (zI (lowA u1 (τ 7)))]) (rest := []) S hK (p_meter_bad l D cs a τ pd ln (lowA u1 (τ 7)) (by first | exact hG | exact hG2) (by exact hI) (by first | exact hk | omega) (by omega)) (cwV 1 hts gL_does_X6_meter rfl rfl rfl (by decide +kernel) ⟨(Nat.le_of_ble_eq_true rfl), (Nat.le_of_ble_eq_true rfl)⟩) (PW_rc hK hW) hW rfl hl.1 (Nat.le_of_ble_eq_true rfl) dL_does_103 ⟨Nat.zero_le _, Nat.zero_le _⟩ hS (fun q hq => hq) (fun H locs hB hF hS => ?_)
        have hW : PW D cs a τ pd ln H := hB
        refine lv_istore (lv' := [(6, .int (zI (wnM τ (lowA u1 (τ 7))))), (5, .int (zI (τ 10))), (4, .int (zI (lowA u1 (τ 7)))), (3, .int (zI (τ 7))), (0, .ref (a 0)), (1, .int (zI v)), (2, .int (zI w))]) hx hb dL_does_106 hl (by decide) rfl (fun ls hl => ?_)
        refine lv_iload_n hx hb dL_does_108 rfl (lv_at hl 3 rfl) ?_
        refine x_bipush hx hb dL_does_109 (by decide +kernel) ?_
        refine x_icmp_ne (tgt := 129) hx hb dL_does_111 (by decide) (by omega) (by omega) (fun c_111 => ?_) (fun c_111 => ?_)
        · exfalso; omega
        · refine lv_iload hx hb dL_does_114 (lv_at hl 0 rfl) ?_
          refine x_bipush hx hb dL_does_116 (by decide +kernel) ?_
          refine x_icmp_neE (tgt := 125) hx hb dL_does_118 (by decide) (by omega) ?_
          refine x_iconst hx hb dL_does_121 ?_
          refine lv_goto (tgt := 185) hx hb dL_does_122 (by decide) ?_
          exact x_zretM hx hb hr hlocks (by first | rfl | omega) (by exact Or.inr rfl) ⟨_, _, _, hW, by first | exact hG2 | exact GD_mono hG2 (by omega) (by omega) | exact GD_mono hG (by omega) (by omega), by omega⟩ hS dL_does_185
      · obtain ⟨hG2, ⟨e7, e6⟩, e0, es, ev⟩ := mt_all hG hN9 (k := (lowA u1 (τ 7))) (by omega)
        have e00 : τ 7 = 0 → amF τ (lowA u1 (τ 7)) (11 + 13 * τ 7 + 0) = -6 := fun q => by rw [e0, if_pos q]
        have e01 : ¬ τ 7 = 0 → amF τ (lowA u1 (τ 7)) (11 + 13 * τ 7 + 0) = (lowA u1 (τ 7)) := fun q => by rw [e0, if_neg q]
        refine x_callVM (As := [.int (zI (lowA u1 (τ 7)))]) (rest := []) S hK (p_meter l D cs a τ pd ln (lowA u1 (τ 7)) (by first | exact hG | exact hG2) (by exact hI) (by first | exact hk | omega) (by omega)) (cwV 1 hts gL_does_X6_meter rfl rfl rfl (by decide +kernel) ⟨(Nat.le_of_ble_eq_true rfl), (Nat.le_of_ble_eq_true rfl)⟩) (PW_rc hK hW) hW rfl hl.1 (Nat.le_of_ble_eq_true rfl) dL_does_103 ⟨Nat.zero_le _, Nat.zero_le _⟩ hS (fun q hq => hq) (fun H locs hB hF hS => ?_)
        have hW : PW D cs a (amF τ (lowA u1 (τ 7))) pd ln H := hB
        refine lv_istore (lv' := [(6, .int (zI (τ 7))), (5, .int (zI (τ 10))), (4, .int (zI (lowA u1 (τ 7)))), (3, .int (zI (τ 7))), (0, .ref (a 0)), (1, .int (zI v)), (2, .int (zI w))]) hx hb dL_does_106 hl (by decide) rfl (fun ls hl => ?_)
        refine lv_iload_n hx hb dL_does_108 rfl (lv_at hl 3 rfl) ?_
        refine x_bipush hx hb dL_does_109 (by decide +kernel) ?_
        refine x_icmp_ne (tgt := 129) hx hb dL_does_111 (by decide) (by omega) (by omega) (fun c_111 => ?_) (fun c_111 => ?_)
        · refine lv_iload hx hb dL_does_129 (lv_at hl 0 rfl) ?_
          refine lv_iload_n hx hb dL_does_131 rfl (lv_at hl 3 rfl) ?_
          refine x_icmp_neE (tgt := 184) hx hb dL_does_132 (by decide) (by omega) ?_
          refine lv_aload_n hx hb dL_does_135 rfl (lv_at hl 4 rfl) ?_
          refine lv_iload_n hx hb dL_does_136 rfl (lv_at hl 3 rfl) ?_
          refine x_iconst hx hb dL_does_137 ?_
          refine x_callVR (As := [.int (zI (τ 7)), .int (zI 0)]) (rest := []) S hK (p_of_0 l D cs a (amF τ (lowA u1 (τ 7))) pd ln (τ 7) (by first | exact hG | exact hG2) (by first | exact hk | omega)) (cwV 2 hts gL_does_X6_of rfl rfl rfl (by decide +kernel) ⟨(Nat.le_of_ble_eq_true rfl), (Nat.le_of_ble_eq_true rfl)⟩) (PW_rc hK hW) hW rfl hl.1 (Nat.le_of_ble_eq_true rfl) dL_does_138 ⟨Nat.zero_le _, Nat.zero_le _⟩ ?_
          refine lv_iload_n hx hb dL_does_141 rfl (lv_at hl 3 rfl) ?_
          refine x_if_ne (tgt := 150) hx hb dL_does_142 (by decide) (by omega) (fun c_142 => ?_) (fun c_142 => ?_)
          · refine lv_iload hx hb dL_does_150 (lv_at hl 2 rfl) ?_
            refine x_icmp_neE (tgt := 184) hx hb dL_does_152 (by decide) (by omega) ?_
            refine lv_aload_n hx hb dL_does_155 rfl (lv_at hl 4 rfl) ?_
            refine lv_iload_n hx hb dL_does_156 rfl (lv_at hl 3 rfl) ?_
            refine x_bipush hx hb dL_does_157 (by decide +kernel) ?_
            refine x_callVR (As := [.int (zI (τ 7)), .int (zI 7)]) (rest := []) S hK (p_of_7 l D cs a (amF τ (lowA u1 (τ 7))) pd ln (τ 7) (by first | exact hG | exact hG2) (by first | exact hk | omega)) (cwV 2 hts gL_does_X6_of rfl rfl rfl (by decide +kernel) ⟨(Nat.le_of_ble_eq_true rfl), (Nat.le_of_ble_eq_true rfl)⟩) (PW_rc hK hW) hW rfl hl.1 (Nat.le_of_ble_eq_true rfl) dL_does_159 ⟨Nat.zero_le _, Nat.zero_le _⟩ ?_
            refine lv_iload hx hb dL_does_162 (lv_at hl 1 rfl) ?_
            refine x_iconst hx hb dL_does_164 ?_
            refine x_iadd hx hb dL_does_165 ?_
            refine x_icmp_neE (tgt := 184) hx hb dL_does_166 (by decide) (by omega) ?_
            refine lv_aload_n hx hb dL_does_169 rfl (lv_at hl 4 rfl) ?_
            refine lv_iload_n hx hb dL_does_170 rfl (lv_at hl 3 rfl) ?_
            refine x_iconst hx hb dL_does_171 ?_
            refine x_callVR (As := [.int (zI (τ 7)), .int (zI 3)]) (rest := []) S hK (p_of_3 l D cs a (amF τ (lowA u1 (τ 7))) pd ln (τ 7) (by first | exact hG | exact hG2) (by first | exact hk | omega)) (cwV 2 hts gL_does_X6_of rfl rfl rfl (by decide +kernel) ⟨(Nat.le_of_ble_eq_true rfl), (Nat.le_of_ble_eq_true rfl)⟩) (PW_rc hK hW) hW rfl hl.1 (Nat.le_of_ble_eq_true rfl) dL_does_172 ⟨Nat.zero_le _, Nat.zero_le _⟩ ?_
            refine x_bipush hx hb dL_does_175 (by decide +kernel) ?_
            refine x_icmp_neE (tgt := 184) hx hb dL_does_177 (by decide) (by omega) ?_
            refine x_iconst hx hb dL_does_180 ?_
            refine lv_goto (tgt := 185) hx hb dL_does_181 (by decide) ?_
            exact x_zretM hx hb hr hlocks (by first | rfl | omega) (by exact Or.inr rfl) ⟨_, _, _, hW, by first | exact hG2 | exact GD_mono hG2 (by omega) (by omega) | exact GD_mono hG (by omega) (by omega), by omega⟩ hS dL_does_185
          · exfalso; omega
        · exfalso; omega
    by_cases k_29_2 : lowA v 18 = 2
    · refine x_tabIn (k := 2) (off := 157) (tgt := 186) hx hb dL_does_29 k_29_2 (by decide) (by decide) (by decide) rfl (by decide) ?_
      refine lv_aload_n hx hb dL_does_186 rfl (lv_at hl 2 rfl) ?_
      refine x_iconst hx hb dL_does_187 ?_
      refine x_callVR (As := [.int (zI 3)]) (rest := []) S hK (p_count_3 l D cs a τ pd ln (by first | exact hG | exact hG2)) (cwV 1 hts gL_does_X6_count rfl rfl rfl (by decide +kernel) ⟨(Nat.le_of_ble_eq_true rfl), (Nat.le_of_ble_eq_true rfl)⟩) (PW_rc hK hW) hW rfl hl.1 (Nat.le_of_ble_eq_true rfl) dL_does_188 ⟨Nat.zero_le _, Nat.zero_le _⟩ ?_
      refine lv_istore (lv' := [(7, .int (zI (τ 8))), (4, .int (zI (lowA u1 (τ 7)))), (3, .int (zI (τ 7))), (0, .ref (a 0)), (1, .int (zI v)), (2, .int (zI w))]) hx hb dL_does_191 hl (by decide) rfl (fun ls hl => ?_)
      refine lv_aload_n hx hb dL_does_193 rfl (lv_at hl 3 rfl) ?_
      refine lv_iload hx hb dL_does_194 (lv_at hl 1 rfl) ?_
      refine x_iconst hx hb dL_does_196 ?_
      refine lv_iload_n hx hb dL_does_197 rfl (lv_at hl 5 rfl) ?_
      refine lv_iload_n hx hb dL_does_198 rfl (lv_at hl 4 rfl) ?_
      refine x_bipush hx hb dL_does_199 (by decide +kernel) ?_
      refine lv_ishr hx hb dL_does_201 ?_
      refine lv_topi (fun v_ ev_ => ?_)
      obtain ⟨u2, hu2, rfl⟩ : ∃ z : Int, (-2147483648 ≤ z ∧ z < 2147483648) ∧ v_ = zI z := ⟨v_.toInt, zI_rng v_, (zI_of v_).symm⟩
      clear ev_
      refine x_iconst hx hb dL_does_202 ?_
      refine lv_iand hx hb dL_does_203 ?_
      refine lv_topi (fun v_ ev_ => ?_)
      obtain ⟨u3, hu3, rfl⟩ : ∃ z : Int, (-2147483648 ≤ z ∧ z < 2147483648) ∧ v_ = zI z := ⟨v_.toInt, zI_rng v_, (zI_of v_).symm⟩
      clear ev_
      refine x_if_ne (tgt := 212) hx hb dL_does_204 (by decide) (by omega) (fun c_204 => ?_) (fun c_204 => ?_)
      · refine x_sipush hx hb dL_does_212 (by decide +kernel) ?_
        refine x_callSR (As := [.int (zI w), .int (zI 4000)]) (rest := [.int (zI 1), .int (zI (lowA u1 (τ 7))), .ref (a 0)]) S hK (l_low l D cs w 4000 (by omega)) (va_cwS 2 hts gL_does_L_low rfl rfl rfl (by decide +kernel) ⟨(Nat.le_of_ble_eq_true rfl), (Nat.le_of_ble_eq_true rfl)⟩) trivial rfl hl.1 (Nat.le_of_ble_eq_true rfl) dL_does_215 ⟨Nat.zero_le _, Nat.zero_le _⟩ ?_
        have hpw : 1 ≤ (1 + (lowA w 4000)) ∧ (1 + (lowA w 4000)) ≤ 4000 := by have := lowA_rng w (nn := 4000) (by decide); omega
        have hwe := wnL_e (k := (lowA u1 (τ 7))) (w := 1 + (lowA w 4000)) h8 hme hpw
        refine x_iadd hx hb dL_does_218 ?_
        by_cases z_219 : wnL τ (lowA u1 (τ 7)) (1 + (lowA w 4000)) = 0
        · obtain ⟨hG2, ⟨e7, e6, e8⟩, e0, e2⟩ := ld_all hG z_219
          refine x_callVM (As := [.int (zI (lowA u1 (τ 7))), .int (zI (1 + (lowA w 4000)))]) (rest := []) S hK (p_load l D cs a τ pd ln (lowA u1 (τ 7)) (1 + (lowA w 4000)) (by first | exact hG | exact hG2) (by exact hI) (by first | exact hk | omega) (by omega) (by omega)) (cwV 2 hts gL_does_X6_load rfl rfl rfl (by decide +kernel) ⟨(Nat.le_of_ble_eq_true rfl), (Nat.le_of_ble_eq_true rfl)⟩) (PW_rc hK hW) hW rfl hl.1 (Nat.le_of_ble_eq_true rfl) dL_does_219 ⟨Nat.zero_le _, Nat.zero_le _⟩ hS (fun q hq => hq) (fun H locs hB hF hS => ?_)
          have hW : PW D cs a (alF τ (lowA u1 (τ 7)) (1 + (lowA w 4000))) pd ln H := hB
          refine lv_istore (lv' := [(8, .int (zI (τ 8))), (7, .int (zI (τ 8))), (4, .int (zI (lowA u1 (τ 7)))), (3, .int (zI (τ 7))), (0, .ref (a 0)), (1, .int (zI v)), (2, .int (zI w))]) hx hb dL_does_222 hl (by decide) rfl (fun ls hl => ?_)
          refine lv_iload_n hx hb dL_does_224 rfl (lv_at hl 3 rfl) ?_
          refine x_if_ne (tgt := 242) hx hb dL_does_225 (by decide) (by omega) (fun c_225 => ?_) (fun c_225 => ?_)
          · refine lv_iload hx hb dL_does_242 (lv_at hl 1 rfl) ?_
            refine x_bipush hx hb dL_does_244 (by decide +kernel) ?_
            refine x_icmp_ne (tgt := 264) hx hb dL_does_246 (by decide) (by omega) (by omega) (fun c_246 => ?_) (fun c_246 => ?_)
            · refine lv_iload hx hb dL_does_264 (lv_at hl 0 rfl) ?_
              refine lv_iload hx hb dL_does_266 (lv_at hl 1 rfl) ?_
              refine x_icmp_neE (tgt := 297) hx hb dL_does_268 (by decide) (by omega) ?_
              refine lv_aload_n hx hb dL_does_271 rfl (lv_at hl 4 rfl) ?_
              refine lv_iload hx hb dL_does_272 (lv_at hl 0 rfl) ?_
              refine x_iconst hx hb dL_does_274 ?_
              refine x_callVR (As := [.int (zI (τ 8)), .int (zI 0)]) (rest := []) S hK (p_ofLoad_0 l D cs a (alF τ (lowA u1 (τ 7)) (1 + (lowA w 4000))) pd ln (τ 8) (by first | exact hG | exact hG2) (by first | exact hk | omega)) (cwV 2 hts gL_does_X6_ofLoad rfl rfl rfl (by decide +kernel) ⟨(Nat.le_of_ble_eq_true rfl), (Nat.le_of_ble_eq_true rfl)⟩) (PW_rc hK hW) hW rfl hl.1 (Nat.le_of_ble_eq_true rfl) dL_does_275 ⟨Nat.zero_le _, Nat.zero_le _⟩ ?_
              refine lv_iload hx hb dL_does_278 (lv_at hl 2 rfl) ?_
              refine x_icmp_neE (tgt := 297) hx hb dL_does_280 (by decide) (by omega) ?_
              refine lv_aload_n hx hb dL_does_283 rfl (lv_at hl 4 rfl) ?_
              refine lv_iload hx hb dL_does_284 (lv_at hl 0 rfl) ?_
              refine x_iconst hx hb dL_does_286 ?_
              refine x_callVR (As := [.int (zI (τ 8)), .int (zI 2)]) (rest := []) S hK (p_ofLoad_2 l D cs a (alF τ (lowA u1 (τ 7)) (1 + (lowA w 4000))) pd ln (τ 8) (by first | exact hG | exact hG2) (by first | exact hk | omega)) (cwV 2 hts gL_does_X6_ofLoad rfl rfl rfl (by decide +kernel) ⟨(Nat.le_of_ble_eq_true rfl), (Nat.le_of_ble_eq_true rfl)⟩) (PW_rc hK hW) hW rfl hl.1 (Nat.le_of_ble_eq_true rfl) dL_does_287 ⟨Nat.zero_le _, Nat.zero_le _⟩ ?_
              refine x_if_neE (tgt := 297) hx hb dL_does_290 (by decide) (by omega) ?_
              refine x_iconst hx hb dL_does_293 ?_
              refine lv_goto (tgt := 298) hx hb dL_does_294 (by decide) ?_
              exact x_zretM hx hb hr hlocks (by first | rfl | omega) (by exact Or.inr rfl) ⟨_, _, _, hW, by first | exact hG2 | exact GD_mono hG2 (by omega) (by omega) | exact GD_mono hG (by omega) (by omega), by omega⟩ hS dL_does_298
            · exfalso; omega
          · exfalso; omega
        · refine x_callVM (As := [.int (zI (lowA u1 (τ 7))), .int (zI (1 + (lowA w 4000)))]) (rest := []) S hK (p_load_bad l D cs a τ pd ln (lowA u1 (τ 7)) (1 + (lowA w 4000)) (by first | exact hG | exact hG2) (by exact hI) (by first | exact hk | omega) (by omega) (by omega)) (cwV 2 hts gL_does_X6_load rfl rfl rfl (by decide +kernel) ⟨(Nat.le_of_ble_eq_true rfl), (Nat.le_of_ble_eq_true rfl)⟩) (PW_rc hK hW) hW rfl hl.1 (Nat.le_of_ble_eq_true rfl) dL_does_219 ⟨Nat.zero_le _, Nat.zero_le _⟩ hS (fun q hq => hq) (fun H locs hB hF hS => ?_)
          have hW : PW D cs a τ pd ln H := hB
          refine lv_istore (lv' := [(8, .int (zI (wnL τ (lowA u1 (τ 7)) (1 + (lowA w 4000))))), (7, .int (zI (τ 8))), (4, .int (zI (lowA u1 (τ 7)))), (3, .int (zI (τ 7))), (0, .ref (a 0)), (1, .int (zI v)), (2, .int (zI w))]) hx hb dL_does_222 hl (by decide) rfl (fun ls hl => ?_)
          refine lv_iload_n hx hb dL_does_224 rfl (lv_at hl 3 rfl) ?_
          refine x_if_ne (tgt := 242) hx hb dL_does_225 (by decide) (by omega) (fun c_225 => ?_) (fun c_225 => ?_)
          · refine lv_iload hx hb dL_does_242 (lv_at hl 1 rfl) ?_
            refine x_bipush hx hb dL_does_244 (by decide +kernel) ?_
            refine x_icmp_ne (tgt := 264) hx hb dL_does_246 (by decide) (by omega) (by omega) (fun c_246 => ?_) (fun c_246 => ?_)
            · exfalso; omega
            · refine lv_iload hx hb dL_does_249 (lv_at hl 0 rfl) ?_
              refine x_bipush hx hb dL_does_251 (by decide +kernel) ?_
              refine x_icmp_neE (tgt := 260) hx hb dL_does_253 (by decide) (by omega) ?_
              refine x_iconst hx hb dL_does_256 ?_
              refine lv_goto (tgt := 298) hx hb dL_does_257 (by decide) ?_
              exact x_zretM hx hb hr hlocks (by first | rfl | omega) (by exact Or.inr rfl) ⟨_, _, _, hW, by first | exact hG2 | exact GD_mono hG2 (by omega) (by omega) | exact GD_mono hG (by omega) (by omega), by omega⟩ hS dL_does_298
          · exfalso; omega
      · refine x_bipush hx hb dL_does_207 (by decide +kernel) ?_
        refine lv_goto (tgt := 215) hx hb dL_does_209 (by decide) ?_
        refine x_callSR (As := [.int (zI w), .int (zI 40)]) (rest := [.int (zI 1), .int (zI (lowA u1 (τ 7))), .ref (a 0)]) S hK (l_low l D cs w 40 (by omega)) (va_cwS 2 hts gL_does_L_low rfl rfl rfl (by decide +kernel) ⟨(Nat.le_of_ble_eq_true rfl), (Nat.le_of_ble_eq_true rfl)⟩) trivial rfl hl.1 (Nat.le_of_ble_eq_true rfl) dL_does_215 ⟨Nat.zero_le _, Nat.zero_le _⟩ ?_
        have hpw : 1 ≤ (1 + (lowA w 40)) ∧ (1 + (lowA w 40)) ≤ 4000 := by have := lowA_rng w (nn := 40) (by decide); omega
        have hwe := wnL_e (k := (lowA u1 (τ 7))) (w := 1 + (lowA w 40)) h8 hme hpw
        refine x_iadd hx hb dL_does_218 ?_
        by_cases z_219 : wnL τ (lowA u1 (τ 7)) (1 + (lowA w 40)) = 0
        · obtain ⟨hG2, ⟨e7, e6, e8⟩, e0, e2⟩ := ld_all hG z_219
          refine x_callVM (As := [.int (zI (lowA u1 (τ 7))), .int (zI (1 + (lowA w 40)))]) (rest := []) S hK (p_load l D cs a τ pd ln (lowA u1 (τ 7)) (1 + (lowA w 40)) (by first | exact hG | exact hG2) (by exact hI) (by first | exact hk | omega) (by omega) (by omega)) (cwV 2 hts gL_does_X6_load rfl rfl rfl (by decide +kernel) ⟨(Nat.le_of_ble_eq_true rfl), (Nat.le_of_ble_eq_true rfl)⟩) (PW_rc hK hW) hW rfl hl.1 (Nat.le_of_ble_eq_true rfl) dL_does_219 ⟨Nat.zero_le _, Nat.zero_le _⟩ hS (fun q hq => hq) (fun H locs hB hF hS => ?_)
          have hW : PW D cs a (alF τ (lowA u1 (τ 7)) (1 + (lowA w 40))) pd ln H := hB
          refine lv_istore (lv' := [(8, .int (zI (τ 8))), (7, .int (zI (τ 8))), (4, .int (zI (lowA u1 (τ 7)))), (3, .int (zI (τ 7))), (0, .ref (a 0)), (1, .int (zI v)), (2, .int (zI w))]) hx hb dL_does_222 hl (by decide) rfl (fun ls hl => ?_)
          refine lv_iload_n hx hb dL_does_224 rfl (lv_at hl 3 rfl) ?_
          refine x_if_ne (tgt := 242) hx hb dL_does_225 (by decide) (by omega) (fun c_225 => ?_) (fun c_225 => ?_)
          · refine lv_iload hx hb dL_does_242 (lv_at hl 1 rfl) ?_
            refine x_bipush hx hb dL_does_244 (by decide +kernel) ?_
            refine x_icmp_ne (tgt := 264) hx hb dL_does_246 (by decide) (by omega) (by omega) (fun c_246 => ?_) (fun c_246 => ?_)
            · refine lv_iload hx hb dL_does_264 (lv_at hl 0 rfl) ?_
              refine lv_iload hx hb dL_does_266 (lv_at hl 1 rfl) ?_
              refine x_icmp_neE (tgt := 297) hx hb dL_does_268 (by decide) (by omega) ?_
              refine lv_aload_n hx hb dL_does_271 rfl (lv_at hl 4 rfl) ?_
              refine lv_iload hx hb dL_does_272 (lv_at hl 0 rfl) ?_
              refine x_iconst hx hb dL_does_274 ?_
              refine x_callVR (As := [.int (zI (τ 8)), .int (zI 0)]) (rest := []) S hK (p_ofLoad_0 l D cs a (alF τ (lowA u1 (τ 7)) (1 + (lowA w 40))) pd ln (τ 8) (by first | exact hG | exact hG2) (by first | exact hk | omega)) (cwV 2 hts gL_does_X6_ofLoad rfl rfl rfl (by decide +kernel) ⟨(Nat.le_of_ble_eq_true rfl), (Nat.le_of_ble_eq_true rfl)⟩) (PW_rc hK hW) hW rfl hl.1 (Nat.le_of_ble_eq_true rfl) dL_does_275 ⟨Nat.zero_le _, Nat.zero_le _⟩ ?_
              refine lv_iload hx hb dL_does_278 (lv_at hl 2 rfl) ?_
              refine x_icmp_neE (tgt := 297) hx hb dL_does_280 (by decide) (by omega) ?_
              refine lv_aload_n hx hb dL_does_283 rfl (lv_at hl 4 rfl) ?_
              refine lv_iload hx hb dL_does_284 (lv_at hl 0 rfl) ?_
              refine x_iconst hx hb dL_does_286 ?_
              refine x_callVR (As := [.int (zI (τ 8)), .int (zI 2)]) (rest := []) S hK (p_ofLoad_2 l D cs a (alF τ (lowA u1 (τ 7)) (1 + (lowA w 40))) pd ln (τ 8) (by first | exact hG | exact hG2) (by first | exact hk | omega)) (cwV 2 hts gL_does_X6_ofLoad rfl rfl rfl (by decide +kernel) ⟨(Nat.le_of_ble_eq_true rfl), (Nat.le_of_ble_eq_true rfl)⟩) (PW_rc hK hW) hW rfl hl.1 (Nat.le_of_ble_eq_true rfl) dL_does_287 ⟨Nat.zero_le _, Nat.zero_le _⟩ ?_
              refine x_if_neE (tgt := 297) hx hb dL_does_290 (by decide) (by omega) ?_
              refine x_iconst hx hb dL_does_293 ?_
              refine lv_goto (tgt := 298) hx hb dL_does_294 (by decide) ?_
              exact x_zretM hx hb hr hlocks (by first | rfl | omega) (by exact Or.inr rfl) ⟨_, _, _, hW, by first | exact hG2 | exact GD_mono hG2 (by omega) (by omega) | exact GD_mono hG (by omega) (by omega), by omega⟩ hS dL_does_298
            · exfalso; omega
          · exfalso; omega
        · refine x_callVM (As := [.int (zI (lowA u1 (τ 7))), .int (zI (1 + (lowA w 40)))]) (rest := []) S hK (p_load_bad l D cs a τ pd ln (lowA u1 (τ 7)) (1 + (lowA w 40)) (by first | exact hG | exact hG2) (by exact hI) (by first | exact hk | omega) (by omega) (by omega)) (cwV 2 hts gL_does_X6_load rfl rfl rfl (by decide +kernel) ⟨(Nat.le_of_ble_eq_true rfl), (Nat.le_of_ble_eq_true rfl)⟩) (PW_rc hK hW) hW rfl hl.1 (Nat.le_of_ble_eq_true rfl) dL_does_219 ⟨Nat.zero_le _, Nat.zero_le _⟩ hS (fun q hq => hq) (fun H locs hB hF hS => ?_)
          have hW : PW D cs a τ pd ln H := hB
          refine lv_istore (lv' := [(8, .int (zI (wnL τ (lowA u1 (τ 7)) (1 + (lowA w 40))))), (7, .int (zI (τ 8))), (4, .int (zI (lowA u1 (τ 7)))), (3, .int (zI (τ 7))), (0, .ref (a 0)), (1, .int (zI v)), (2, .int (zI w))]) hx hb dL_does_222 hl (by decide) rfl (fun ls hl => ?_)
          refine lv_iload_n hx hb dL_does_224 rfl (lv_at hl 3 rfl) ?_
          refine x_if_ne (tgt := 242) hx hb dL_does_225 (by decide) (by omega) (fun c_225 => ?_) (fun c_225 => ?_)
          · refine lv_iload hx hb dL_does_242 (lv_at hl 1 rfl) ?_
            refine x_bipush hx hb dL_does_244 (by decide +kernel) ?_
            refine x_icmp_ne (tgt := 264) hx hb dL_does_246 (by decide) (by omega) (by omega) (fun c_246 => ?_) (fun c_246 => ?_)
            · exfalso; omega
            · refine lv_iload hx hb dL_does_249 (lv_at hl 0 rfl) ?_
              refine x_bipush hx hb dL_does_251 (by decide +kernel) ?_
              refine x_icmp_neE (tgt := 260) hx hb dL_does_253 (by decide) (by omega) ?_
              refine x_iconst hx hb dL_does_256 ?_
              refine lv_goto (tgt := 298) hx hb dL_does_257 (by decide) ?_
              exact x_zretM hx hb hr hlocks (by first | rfl | omega) (by exact Or.inr rfl) ⟨_, _, _, hW, by first | exact hG2 | exact GD_mono hG2 (by omega) (by omega) | exact GD_mono hG (by omega) (by omega), by omega⟩ hS dL_does_298
          · exfalso; omega
    by_cases k_29_3 : lowA v 18 = 3
    · refine x_tabIn (k := 3) (off := 157) (tgt := 186) hx hb dL_does_29 k_29_3 (by decide) (by decide) (by decide) rfl (by decide) ?_
      refine lv_aload_n hx hb dL_does_186 rfl (lv_at hl 2 rfl) ?_
      refine x_iconst hx hb dL_does_187 ?_
      refine x_callVR (As := [.int (zI 3)]) (rest := []) S hK (p_count_3 l D cs a τ pd ln (by first | exact hG | exact hG2)) (cwV 1 hts gL_does_X6_count rfl rfl rfl (by decide +kernel) ⟨(Nat.le_of_ble_eq_true rfl), (Nat.le_of_ble_eq_true rfl)⟩) (PW_rc hK hW) hW rfl hl.1 (Nat.le_of_ble_eq_true rfl) dL_does_188 ⟨Nat.zero_le _, Nat.zero_le _⟩ ?_
      refine lv_istore (lv' := [(7, .int (zI (τ 8))), (4, .int (zI (lowA u1 (τ 7)))), (3, .int (zI (τ 7))), (0, .ref (a 0)), (1, .int (zI v)), (2, .int (zI w))]) hx hb dL_does_191 hl (by decide) rfl (fun ls hl => ?_)
      refine lv_aload_n hx hb dL_does_193 rfl (lv_at hl 3 rfl) ?_
      refine lv_iload hx hb dL_does_194 (lv_at hl 1 rfl) ?_
      refine x_iconst hx hb dL_does_196 ?_
      refine lv_iload_n hx hb dL_does_197 rfl (lv_at hl 5 rfl) ?_
      refine lv_iload_n hx hb dL_does_198 rfl (lv_at hl 4 rfl) ?_
      refine x_bipush hx hb dL_does_199 (by decide +kernel) ?_
      refine lv_ishr hx hb dL_does_201 ?_
      refine lv_topi (fun v_ ev_ => ?_)
      obtain ⟨u2, hu2, rfl⟩ : ∃ z : Int, (-2147483648 ≤ z ∧ z < 2147483648) ∧ v_ = zI z := ⟨v_.toInt, zI_rng v_, (zI_of v_).symm⟩
      clear ev_
      refine x_iconst hx hb dL_does_202 ?_
      refine lv_iand hx hb dL_does_203 ?_
      refine lv_topi (fun v_ ev_ => ?_)
      obtain ⟨u3, hu3, rfl⟩ : ∃ z : Int, (-2147483648 ≤ z ∧ z < 2147483648) ∧ v_ = zI z := ⟨v_.toInt, zI_rng v_, (zI_of v_).symm⟩
      clear ev_
      refine x_if_ne (tgt := 212) hx hb dL_does_204 (by decide) (by omega) (fun c_204 => ?_) (fun c_204 => ?_)
      · refine x_sipush hx hb dL_does_212 (by decide +kernel) ?_
        refine x_callSR (As := [.int (zI w), .int (zI 4000)]) (rest := [.int (zI 1), .int (zI (lowA u1 (τ 7))), .ref (a 0)]) S hK (l_low l D cs w 4000 (by omega)) (va_cwS 2 hts gL_does_L_low rfl rfl rfl (by decide +kernel) ⟨(Nat.le_of_ble_eq_true rfl), (Nat.le_of_ble_eq_true rfl)⟩) trivial rfl hl.1 (Nat.le_of_ble_eq_true rfl) dL_does_215 ⟨Nat.zero_le _, Nat.zero_le _⟩ ?_
        have hpw : 1 ≤ (1 + (lowA w 4000)) ∧ (1 + (lowA w 4000)) ≤ 4000 := by have := lowA_rng w (nn := 4000) (by decide); omega
        have hwe := wnL_e (k := (lowA u1 (τ 7))) (w := 1 + (lowA w 4000)) h8 hme hpw
        refine x_iadd hx hb dL_does_218 ?_
        by_cases z_219 : wnL τ (lowA u1 (τ 7)) (1 + (lowA w 4000)) = 0
        · obtain ⟨hG2, ⟨e7, e6, e8⟩, e0, e2⟩ := ld_all hG z_219
          refine x_callVM (As := [.int (zI (lowA u1 (τ 7))), .int (zI (1 + (lowA w 4000)))]) (rest := []) S hK (p_load l D cs a τ pd ln (lowA u1 (τ 7)) (1 + (lowA w 4000)) (by first | exact hG | exact hG2) (by exact hI) (by first | exact hk | omega) (by omega) (by omega)) (cwV 2 hts gL_does_X6_load rfl rfl rfl (by decide +kernel) ⟨(Nat.le_of_ble_eq_true rfl), (Nat.le_of_ble_eq_true rfl)⟩) (PW_rc hK hW) hW rfl hl.1 (Nat.le_of_ble_eq_true rfl) dL_does_219 ⟨Nat.zero_le _, Nat.zero_le _⟩ hS (fun q hq => hq) (fun H locs hB hF hS => ?_)
          have hW : PW D cs a (alF τ (lowA u1 (τ 7)) (1 + (lowA w 4000))) pd ln H := hB
          refine lv_istore (lv' := [(8, .int (zI (τ 8))), (7, .int (zI (τ 8))), (4, .int (zI (lowA u1 (τ 7)))), (3, .int (zI (τ 7))), (0, .ref (a 0)), (1, .int (zI v)), (2, .int (zI w))]) hx hb dL_does_222 hl (by decide) rfl (fun ls hl => ?_)
          refine lv_iload_n hx hb dL_does_224 rfl (lv_at hl 3 rfl) ?_
          refine x_if_ne (tgt := 242) hx hb dL_does_225 (by decide) (by omega) (fun c_225 => ?_) (fun c_225 => ?_)
          · refine lv_iload hx hb dL_does_242 (lv_at hl 1 rfl) ?_
            refine x_bipush hx hb dL_does_244 (by decide +kernel) ?_
            refine x_icmp_ne (tgt := 264) hx hb dL_does_246 (by decide) (by omega) (by omega) (fun c_246 => ?_) (fun c_246 => ?_)
            · refine lv_iload hx hb dL_does_264 (lv_at hl 0 rfl) ?_
              refine lv_iload hx hb dL_does_266 (lv_at hl 1 rfl) ?_
              refine x_icmp_neE (tgt := 297) hx hb dL_does_268 (by decide) (by omega) ?_
              refine lv_aload_n hx hb dL_does_271 rfl (lv_at hl 4 rfl) ?_
              refine lv_iload hx hb dL_does_272 (lv_at hl 0 rfl) ?_
              refine x_iconst hx hb dL_does_274 ?_
              refine x_callVR (As := [.int (zI (τ 8)), .int (zI 0)]) (rest := []) S hK (p_ofLoad_0 l D cs a (alF τ (lowA u1 (τ 7)) (1 + (lowA w 4000))) pd ln (τ 8) (by first | exact hG | exact hG2) (by first | exact hk | omega)) (cwV 2 hts gL_does_X6_ofLoad rfl rfl rfl (by decide +kernel) ⟨(Nat.le_of_ble_eq_true rfl), (Nat.le_of_ble_eq_true rfl)⟩) (PW_rc hK hW) hW rfl hl.1 (Nat.le_of_ble_eq_true rfl) dL_does_275 ⟨Nat.zero_le _, Nat.zero_le _⟩ ?_
              refine lv_iload hx hb dL_does_278 (lv_at hl 2 rfl) ?_
              refine x_icmp_neE (tgt := 297) hx hb dL_does_280 (by decide) (by omega) ?_
              refine lv_aload_n hx hb dL_does_283 rfl (lv_at hl 4 rfl) ?_
              refine lv_iload hx hb dL_does_284 (lv_at hl 0 rfl) ?_
              refine x_iconst hx hb dL_does_286 ?_
              refine x_callVR (As := [.int (zI (τ 8)), .int (zI 2)]) (rest := []) S hK (p_ofLoad_2 l D cs a (alF τ (lowA u1 (τ 7)) (1 + (lowA w 4000))) pd ln (τ 8) (by first | exact hG | exact hG2) (by first | exact hk | omega)) (cwV 2 hts gL_does_X6_ofLoad rfl rfl rfl (by decide +kernel) ⟨(Nat.le_of_ble_eq_true rfl), (Nat.le_of_ble_eq_true rfl)⟩) (PW_rc hK hW) hW rfl hl.1 (Nat.le_of_ble_eq_true rfl) dL_does_287 ⟨Nat.zero_le _, Nat.zero_le _⟩ ?_
              refine x_if_neE (tgt := 297) hx hb dL_does_290 (by decide) (by omega) ?_
              refine x_iconst hx hb dL_does_293 ?_
              refine lv_goto (tgt := 298) hx hb dL_does_294 (by decide) ?_
              exact x_zretM hx hb hr hlocks (by first | rfl | omega) (by exact Or.inr rfl) ⟨_, _, _, hW, by first | exact hG2 | exact GD_mono hG2 (by omega) (by omega) | exact GD_mono hG (by omega) (by omega), by omega⟩ hS dL_does_298
            · exfalso; omega
          · exfalso; omega
        · refine x_callVM (As := [.int (zI (lowA u1 (τ 7))), .int (zI (1 + (lowA w 4000)))]) (rest := []) S hK (p_load_bad l D cs a τ pd ln (lowA u1 (τ 7)) (1 + (lowA w 4000)) (by first | exact hG | exact hG2) (by exact hI) (by first | exact hk | omega) (by omega) (by omega)) (cwV 2 hts gL_does_X6_load rfl rfl rfl (by decide +kernel) ⟨(Nat.le_of_ble_eq_true rfl), (Nat.le_of_ble_eq_true rfl)⟩) (PW_rc hK hW) hW rfl hl.1 (Nat.le_of_ble_eq_true rfl) dL_does_219 ⟨Nat.zero_le _, Nat.zero_le _⟩ hS (fun q hq => hq) (fun H locs hB hF hS => ?_)
          have hW : PW D cs a τ pd ln H := hB
          refine lv_istore (lv' := [(8, .int (zI (wnL τ (lowA u1 (τ 7)) (1 + (lowA w 4000))))), (7, .int (zI (τ 8))), (4, .int (zI (lowA u1 (τ 7)))), (3, .int (zI (τ 7))), (0, .ref (a 0)), (1, .int (zI v)), (2, .int (zI w))]) hx hb dL_does_222 hl (by decide) rfl (fun ls hl => ?_)
          refine lv_iload_n hx hb dL_does_224 rfl (lv_at hl 3 rfl) ?_
          refine x_if_ne (tgt := 242) hx hb dL_does_225 (by decide) (by omega) (fun c_225 => ?_) (fun c_225 => ?_)
          · refine lv_iload hx hb dL_does_242 (lv_at hl 1 rfl) ?_
            refine x_bipush hx hb dL_does_244 (by decide +kernel) ?_
            refine x_icmp_ne (tgt := 264) hx hb dL_does_246 (by decide) (by omega) (by omega) (fun c_246 => ?_) (fun c_246 => ?_)
            · exfalso; omega
            · refine lv_iload hx hb dL_does_249 (lv_at hl 0 rfl) ?_
              refine x_bipush hx hb dL_does_251 (by decide +kernel) ?_
              refine x_icmp_neE (tgt := 260) hx hb dL_does_253 (by decide) (by omega) ?_
              refine x_iconst hx hb dL_does_256 ?_
              refine lv_goto (tgt := 298) hx hb dL_does_257 (by decide) ?_
              exact x_zretM hx hb hr hlocks (by first | rfl | omega) (by exact Or.inr rfl) ⟨_, _, _, hW, by first | exact hG2 | exact GD_mono hG2 (by omega) (by omega) | exact GD_mono hG (by omega) (by omega), by omega⟩ hS dL_does_298
          · exfalso; omega
      · refine x_bipush hx hb dL_does_207 (by decide +kernel) ?_
        refine lv_goto (tgt := 215) hx hb dL_does_209 (by decide) ?_
        refine x_callSR (As := [.int (zI w), .int (zI 40)]) (rest := [.int (zI 1), .int (zI (lowA u1 (τ 7))), .ref (a 0)]) S hK (l_low l D cs w 40 (by omega)) (va_cwS 2 hts gL_does_L_low rfl rfl rfl (by decide +kernel) ⟨(Nat.le_of_ble_eq_true rfl), (Nat.le_of_ble_eq_true rfl)⟩) trivial rfl hl.1 (Nat.le_of_ble_eq_true rfl) dL_does_215 ⟨Nat.zero_le _, Nat.zero_le _⟩ ?_
        have hpw : 1 ≤ (1 + (lowA w 40)) ∧ (1 + (lowA w 40)) ≤ 4000 := by have := lowA_rng w (nn := 40) (by decide); omega
        have hwe := wnL_e (k := (lowA u1 (τ 7))) (w := 1 + (lowA w 40)) h8 hme hpw
        refine x_iadd hx hb dL_does_218 ?_
        by_cases z_219 : wnL τ (lowA u1 (τ 7)) (1 + (lowA w 40)) = 0
        · obtain ⟨hG2, ⟨e7, e6, e8⟩, e0, e2⟩ := ld_all hG z_219
          refine x_callVM (As := [.int (zI (lowA u1 (τ 7))), .int (zI (1 + (lowA w 40)))]) (rest := []) S hK (p_load l D cs a τ pd ln (lowA u1 (τ 7)) (1 + (lowA w 40)) (by first | exact hG | exact hG2) (by exact hI) (by first | exact hk | omega) (by omega) (by omega)) (cwV 2 hts gL_does_X6_load rfl rfl rfl (by decide +kernel) ⟨(Nat.le_of_ble_eq_true rfl), (Nat.le_of_ble_eq_true rfl)⟩) (PW_rc hK hW) hW rfl hl.1 (Nat.le_of_ble_eq_true rfl) dL_does_219 ⟨Nat.zero_le _, Nat.zero_le _⟩ hS (fun q hq => hq) (fun H locs hB hF hS => ?_)
          have hW : PW D cs a (alF τ (lowA u1 (τ 7)) (1 + (lowA w 40))) pd ln H := hB
          refine lv_istore (lv' := [(8, .int (zI (τ 8))), (7, .int (zI (τ 8))), (4, .int (zI (lowA u1 (τ 7)))), (3, .int (zI (τ 7))), (0, .ref (a 0)), (1, .int (zI v)), (2, .int (zI w))]) hx hb dL_does_222 hl (by decide) rfl (fun ls hl => ?_)
          refine lv_iload_n hx hb dL_does_224 rfl (lv_at hl 3 rfl) ?_
          refine x_if_ne (tgt := 242) hx hb dL_does_225 (by decide) (by omega) (fun c_225 => ?_) (fun c_225 => ?_)
          · refine lv_iload hx hb dL_does_242 (lv_at hl 1 rfl) ?_
            refine x_bipush hx hb dL_does_244 (by decide +kernel) ?_
            refine x_icmp_ne (tgt := 264) hx hb dL_does_246 (by decide) (by omega) (by omega) (fun c_246 => ?_) (fun c_246 => ?_)
            · refine lv_iload hx hb dL_does_264 (lv_at hl 0 rfl) ?_
              refine lv_iload hx hb dL_does_266 (lv_at hl 1 rfl) ?_
              refine x_icmp_neE (tgt := 297) hx hb dL_does_268 (by decide) (by omega) ?_
              refine lv_aload_n hx hb dL_does_271 rfl (lv_at hl 4 rfl) ?_
              refine lv_iload hx hb dL_does_272 (lv_at hl 0 rfl) ?_
              refine x_iconst hx hb dL_does_274 ?_
              refine x_callVR (As := [.int (zI (τ 8)), .int (zI 0)]) (rest := []) S hK (p_ofLoad_0 l D cs a (alF τ (lowA u1 (τ 7)) (1 + (lowA w 40))) pd ln (τ 8) (by first | exact hG | exact hG2) (by first | exact hk | omega)) (cwV 2 hts gL_does_X6_ofLoad rfl rfl rfl (by decide +kernel) ⟨(Nat.le_of_ble_eq_true rfl), (Nat.le_of_ble_eq_true rfl)⟩) (PW_rc hK hW) hW rfl hl.1 (Nat.le_of_ble_eq_true rfl) dL_does_275 ⟨Nat.zero_le _, Nat.zero_le _⟩ ?_
              refine lv_iload hx hb dL_does_278 (lv_at hl 2 rfl) ?_
              refine x_icmp_neE (tgt := 297) hx hb dL_does_280 (by decide) (by omega) ?_
              refine lv_aload_n hx hb dL_does_283 rfl (lv_at hl 4 rfl) ?_
              refine lv_iload hx hb dL_does_284 (lv_at hl 0 rfl) ?_
              refine x_iconst hx hb dL_does_286 ?_
              refine x_callVR (As := [.int (zI (τ 8)), .int (zI 2)]) (rest := []) S hK (p_ofLoad_2 l D cs a (alF τ (lowA u1 (τ 7)) (1 + (lowA w 40))) pd ln (τ 8) (by first | exact hG | exact hG2) (by first | exact hk | omega)) (cwV 2 hts gL_does_X6_ofLoad rfl rfl rfl (by decide +kernel) ⟨(Nat.le_of_ble_eq_true rfl), (Nat.le_of_ble_eq_true rfl)⟩) (PW_rc hK hW) hW rfl hl.1 (Nat.le_of_ble_eq_true rfl) dL_does_287 ⟨Nat.zero_le _, Nat.zero_le _⟩ ?_
              refine x_if_neE (tgt := 297) hx hb dL_does_290 (by decide) (by omega) ?_
              refine x_iconst hx hb dL_does_293 ?_
              refine lv_goto (tgt := 298) hx hb dL_does_294 (by decide) ?_
              exact x_zretM hx hb hr hlocks (by first | rfl | omega) (by exact Or.inr rfl) ⟨_, _, _, hW, by first | exact hG2 | exact GD_mono hG2 (by omega) (by omega) | exact GD_mono hG (by omega) (by omega), by omega⟩ hS dL_does_298
            · exfalso; omega
          · exfalso; omega
        · refine x_callVM (As := [.int (zI (lowA u1 (τ 7))), .int (zI (1 + (lowA w 40)))]) (rest := []) S hK (p_load_bad l D cs a τ pd ln (lowA u1 (τ 7)) (1 + (lowA w 40)) (by first | exact hG | exact hG2) (by exact hI) (by first | exact hk | omega) (by omega) (by omega)) (cwV 2 hts gL_does_X6_load rfl rfl rfl (by decide +kernel) ⟨(Nat.le_of_ble_eq_true rfl), (Nat.le_of_ble_eq_true rfl)⟩) (PW_rc hK hW) hW rfl hl.1 (Nat.le_of_ble_eq_true rfl) dL_does_219 ⟨Nat.zero_le _, Nat.zero_le _⟩ hS (fun q hq => hq) (fun H locs hB hF hS => ?_)
          have hW : PW D cs a τ pd ln H := hB
          refine lv_istore (lv' := [(8, .int (zI (wnL τ (lowA u1 (τ 7)) (1 + (lowA w 40))))), (7, .int (zI (τ 8))), (4, .int (zI (lowA u1 (τ 7)))), (3, .int (zI (τ 7))), (0, .ref (a 0)), (1, .int (zI v)), (2, .int (zI w))]) hx hb dL_does_222 hl (by decide) rfl (fun ls hl => ?_)
          refine lv_iload_n hx hb dL_does_224 rfl (lv_at hl 3 rfl) ?_
          refine x_if_ne (tgt := 242) hx hb dL_does_225 (by decide) (by omega) (fun c_225 => ?_) (fun c_225 => ?_)
          · refine lv_iload hx hb dL_does_242 (lv_at hl 1 rfl) ?_
            refine x_bipush hx hb dL_does_244 (by decide +kernel) ?_
            refine x_icmp_ne (tgt := 264) hx hb dL_does_246 (by decide) (by omega) (by omega) (fun c_246 => ?_) (fun c_246 => ?_)
            · exfalso; omega
            · refine lv_iload hx hb dL_does_249 (lv_at hl 0 rfl) ?_
              refine x_bipush hx hb dL_does_251 (by decide +kernel) ?_
              refine x_icmp_neE (tgt := 260) hx hb dL_does_253 (by decide) (by omega) ?_
              refine x_iconst hx hb dL_does_256 ?_
              refine lv_goto (tgt := 298) hx hb dL_does_257 (by decide) ?_
              exact x_zretM hx hb hr hlocks (by first | rfl | omega) (by exact Or.inr rfl) ⟨_, _, _, hW, by first | exact hG2 | exact GD_mono hG2 (by omega) (by omega) | exact GD_mono hG (by omega) (by omega), by omega⟩ hS dL_does_298
          · exfalso; omega
    by_cases k_29_4 : lowA v 18 = 4
    · refine x_tabIn (k := 4) (off := 270) (tgt := 299) hx hb dL_does_29 k_29_4 (by decide) (by decide) (by decide) rfl (by decide) ?_
      refine lv_iload_n hx hb dL_does_299 rfl (lv_at hl 4 rfl) ?_
      refine x_bipush hx hb dL_does_300 (by decide +kernel) ?_
      refine x_callSR (As := [.int (zI w), .int (zI 12)]) (rest := []) S hK (l_low l D cs w 12 (by omega)) (va_cwS 2 hts gL_does_L_low rfl rfl rfl (by decide +kernel) ⟨(Nat.le_of_ble_eq_true rfl), (Nat.le_of_ble_eq_true rfl)⟩) trivial rfl hl.1 (Nat.le_of_ble_eq_true rfl) dL_does_302 ⟨Nat.zero_le _, Nat.zero_le _⟩ ?_
      have hwh := lowA_rng w (nn := 12) (by decide)
      refine lv_istore (lv' := [(9, .int (zI (lowA w 12))), (4, .int (zI (lowA u1 (τ 7)))), (3, .int (zI (τ 7))), (0, .ref (a 0)), (1, .int (zI v)), (2, .int (zI w))]) hx hb dL_does_305 hl (by decide) rfl (fun ls hl => ?_)
      refine lv_aload_n hx hb dL_does_307 rfl (lv_at hl 3 rfl) ?_
      refine lv_iload hx hb dL_does_308 (lv_at hl 0 rfl) ?_
      refine x_iconst hx hb dL_does_310 ?_
      by_cases z_311 : (lowA w 12) < τ 8
      · obtain ⟨hG2, ⟨e7, e6, ep⟩, e8, e1, eon, eof⟩ := tn_all hG (k := (lowA w 12)) (by omega)
        have hll := gd_l hG (k := (lowA w 12)) (by omega)
        have hcp := cpow_rng (gd_g hG).1 0
        refine x_callVR (As := [.int (zI (lowA w 12)), .int (zI 2)]) (rest := []) S hK (p_ofLoad_2 l D cs a τ pd ln (lowA w 12) (by first | exact hG | exact hG2) (by first | exact hk | omega)) (cwV 2 hts gL_does_X6_ofLoad rfl rfl rfl (by decide +kernel) ⟨(Nat.le_of_ble_eq_true rfl), (Nat.le_of_ble_eq_true rfl)⟩) (PW_rc hK hW) hW rfl hl.1 (Nat.le_of_ble_eq_true rfl) dL_does_311 ⟨Nat.zero_le _, Nat.zero_le _⟩ ?_
        refine lv_istore (lv' := [(10, .int (zI (τ (102 + 3 * (lowA w 12) + 2)))), (9, .int (zI (lowA w 12))), (4, .int (zI (lowA u1 (τ 7)))), (3, .int (zI (τ 7))), (0, .ref (a 0)), (1, .int (zI v)), (2, .int (zI w))]) hx hb dL_does_314 hl (by decide) rfl (fun ls hl => ?_)
        refine lv_iload_n hx hb dL_does_316 rfl (lv_at hl 3 rfl) ?_
        refine x_if_ne (tgt := 324) hx hb dL_does_317 (by decide) (by omega) (fun c_317 => ?_) (fun c_317 => ?_)
        · refine lv_aload_n hx hb dL_does_324 rfl (lv_at hl 4 rfl) ?_
          refine x_iconst hx hb dL_does_325 ?_
          refine x_iconst hx hb dL_does_326 ?_
          refine x_callVR (As := [.int (zI 0), .int (zI 1)]) (rest := []) S hK (p_of_1 l D cs a τ pd ln 0 (by first | exact hG | exact hG2) (by first | exact hk | omega)) (cwV 2 hts gL_does_X6_of rfl rfl rfl (by decide +kernel) ⟨(Nat.le_of_ble_eq_true rfl), (Nat.le_of_ble_eq_true rfl)⟩) (PW_rc hK hW) hW rfl hl.1 (Nat.le_of_ble_eq_true rfl) dL_does_327 ⟨Nat.zero_le _, Nat.zero_le _⟩ ?_
          refine lv_istore (lv' := [(11, .int (zI (cpow τ 0))), (10, .int (zI (τ (102 + 3 * (lowA w 12) + 2)))), (9, .int (zI (lowA w 12))), (4, .int (zI (lowA u1 (τ 7)))), (3, .int (zI (τ 7))), (0, .ref (a 0)), (1, .int (zI v)), (2, .int (zI w))]) hx hb dL_does_330 hl (by decide) rfl (fun ls hl => ?_)
          refine lv_aload_n hx hb dL_does_332 rfl (lv_at hl 5 rfl) ?_
          refine lv_iload hx hb dL_does_333 (lv_at hl 2 rfl) ?_
          refine x_callVM (As := [.int (zI (lowA w 12))]) (rest := []) S hK (p_turn l D cs a τ pd ln (lowA w 12) (by first | exact hG | exact hG2) (by exact hI) (by first | exact hk | omega)) (cwV 1 hts gL_does_X6_turn rfl rfl rfl (by decide +kernel) ⟨(Nat.le_of_ble_eq_true rfl), (Nat.le_of_ble_eq_true rfl)⟩) (PW_rc hK hW) hW rfl hl.1 (Nat.le_of_ble_eq_true rfl) dL_does_335 ⟨Nat.zero_le _, Nat.zero_le _⟩ hS (fun q hq => hq) (fun H locs hB hF hS => ?_)
          have hW : PW D cs a (swF τ (lowA w 12)) pd ln H := hB
          refine lv_istore (lv' := [(12, .int (zI (1 - τ (102 + 3 * (lowA w 12) + 2)))), (11, .int (zI (cpow τ 0))), (10, .int (zI (τ (102 + 3 * (lowA w 12) + 2)))), (9, .int (zI (lowA w 12))), (4, .int (zI (lowA u1 (τ 7)))), (3, .int (zI (τ 7))), (0, .ref (a 0)), (1, .int (zI v)), (2, .int (zI w))]) hx hb dL_does_338 hl (by decide) rfl (fun ls hl => ?_)
          refine lv_iload hx hb dL_does_340 (lv_at hl 3 rfl) ?_
          refine lv_aload_n hx hb dL_does_342 rfl (lv_at hl 6 rfl) ?_
          refine x_iconst hx hb dL_does_343 ?_
          refine x_callVR (As := [.int (zI 3)]) (rest := [.int (zI (lowA w 12))]) S hK (p_count_3 l D cs a (swF τ (lowA w 12)) pd ln (by first | exact hG | exact hG2)) (cwV 1 hts gL_does_X6_count rfl rfl rfl (by decide +kernel) ⟨(Nat.le_of_ble_eq_true rfl), (Nat.le_of_ble_eq_true rfl)⟩) (PW_rc hK hW) hW rfl hl.1 (Nat.le_of_ble_eq_true rfl) dL_does_344 ⟨Nat.zero_le _, Nat.zero_le _⟩ ?_
          refine x_icmp_lt (tgt := 364) hx hb dL_does_347 (by decide) (by omega) (by omega) (fun c_347 => ?_) (fun c_347 => ?_)
          · refine lv_iload hx hb dL_does_364 (lv_at hl 0 rfl) ?_
            refine x_iconst hx hb dL_does_366 ?_
            refine lv_iload hx hb dL_does_367 (lv_at hl 2 rfl) ?_
            refine x_isub hx hb dL_does_369 ?_
            refine x_icmp_neE (tgt := 408) hx hb dL_does_370 (by decide) (by omega) ?_
            refine lv_aload_n hx hb dL_does_373 rfl (lv_at hl 6 rfl) ?_
            refine x_iconst hx hb dL_does_374 ?_
            refine x_iconst hx hb dL_does_375 ?_
            refine x_callVR (As := [.int (zI 0), .int (zI 1)]) (rest := []) S hK (p_of_1 l D cs a (swF τ (lowA w 12)) pd ln 0 (by first | exact hG | exact hG2) (by first | exact hk | omega)) (cwV 2 hts gL_does_X6_of rfl rfl rfl (by decide +kernel) ⟨(Nat.le_of_ble_eq_true rfl), (Nat.le_of_ble_eq_true rfl)⟩) (PW_rc hK hW) hW rfl hl.1 (Nat.le_of_ble_eq_true rfl) dL_does_376 ⟨Nat.zero_le _, Nat.zero_le _⟩ ?_
            refine lv_iload hx hb dL_does_379 (lv_at hl 1 rfl) ?_
            refine lv_iload hx hb dL_does_381 (lv_at hl 0 rfl) ?_
            refine x_iconst hx hb dL_does_383 ?_
            refine x_icmp_ne (tgt := 391) hx hb dL_does_384 (by decide) (by omega) (by omega) (fun c_384 => ?_) (fun c_384 => ?_)
            · refine x_iconst hx hb dL_does_391 ?_
              refine lv_aload_n hx hb dL_does_392 rfl (lv_at hl 6 rfl) ?_
              refine lv_iload hx hb dL_does_393 (lv_at hl 3 rfl) ?_
              refine x_iconst hx hb dL_does_395 ?_
              refine x_callVR (As := [.int (zI (lowA w 12)), .int (zI 1)]) (rest := [.int (zI ((-1))), .int (zI (cpow τ 0)), .int (zI (cpow (swF τ (lowA w 12)) 0))]) S hK (p_ofLoad_1 l D cs a (swF τ (lowA w 12)) pd ln (lowA w 12) (by first | exact hG | exact hG2) (by first | exact hk | omega)) (cwV 2 hts gL_does_X6_ofLoad rfl rfl rfl (by decide +kernel) ⟨(Nat.le_of_ble_eq_true rfl), (Nat.le_of_ble_eq_true rfl)⟩) (PW_rc hK hW) hW rfl hl.1 (Nat.le_of_ble_eq_true rfl) dL_does_396 ⟨Nat.zero_le _, Nat.zero_le _⟩ ?_
              refine x_imul hx hb dL_does_399 ?_
              refine x_iadd hx hb dL_does_400 ?_
              refine x_icmp_neE (tgt := 408) hx hb dL_does_401 (by decide) (by omega) ?_
              refine x_iconst hx hb dL_does_404 ?_
              refine lv_goto (tgt := 409) hx hb dL_does_405 (by decide) ?_
              exact x_zretM hx hb hr hlocks (by first | rfl | omega) (by exact Or.inr rfl) ⟨_, _, _, hW, by first | exact hG2 | exact GD_mono hG2 (by omega) (by omega) | exact GD_mono hG (by omega) (by omega), by omega⟩ hS dL_does_409
            · refine x_iconst hx hb dL_does_387 ?_
              refine lv_goto (tgt := 392) hx hb dL_does_388 (by decide) ?_
              refine lv_aload_n hx hb dL_does_392 rfl (lv_at hl 6 rfl) ?_
              refine lv_iload hx hb dL_does_393 (lv_at hl 3 rfl) ?_
              refine x_iconst hx hb dL_does_395 ?_
              refine x_callVR (As := [.int (zI (lowA w 12)), .int (zI 1)]) (rest := [.int (zI 1), .int (zI (cpow τ 0)), .int (zI (cpow (swF τ (lowA w 12)) 0))]) S hK (p_ofLoad_1 l D cs a (swF τ (lowA w 12)) pd ln (lowA w 12) (by first | exact hG | exact hG2) (by first | exact hk | omega)) (cwV 2 hts gL_does_X6_ofLoad rfl rfl rfl (by decide +kernel) ⟨(Nat.le_of_ble_eq_true rfl), (Nat.le_of_ble_eq_true rfl)⟩) (PW_rc hK hW) hW rfl hl.1 (Nat.le_of_ble_eq_true rfl) dL_does_396 ⟨Nat.zero_le _, Nat.zero_le _⟩ ?_
              refine x_imul hx hb dL_does_399 ?_
              refine x_iadd hx hb dL_does_400 ?_
              refine x_icmp_neE (tgt := 408) hx hb dL_does_401 (by decide) (by omega) ?_
              refine x_iconst hx hb dL_does_404 ?_
              refine lv_goto (tgt := 409) hx hb dL_does_405 (by decide) ?_
              exact x_zretM hx hb hr hlocks (by first | rfl | omega) (by exact Or.inr rfl) ⟨_, _, _, hW, by first | exact hG2 | exact GD_mono hG2 (by omega) (by omega) | exact GD_mono hG (by omega) (by omega), by omega⟩ hS dL_does_409
          · exfalso; omega
        · exfalso; omega
      · refine x_callVR (As := [.int (zI (lowA w 12)), .int (zI 2)]) (rest := []) S hK (p_ofLoad_bad l D cs a τ pd ln (lowA w 12) 2 (by first | exact hG | exact hG2) (by first | exact hk | omega) (by omega)) (cwV 2 hts gL_does_X6_ofLoad rfl rfl rfl (by decide +kernel) ⟨(Nat.le_of_ble_eq_true rfl), (Nat.le_of_ble_eq_true rfl)⟩) (PW_rc hK hW) hW rfl hl.1 (Nat.le_of_ble_eq_true rfl) dL_does_311 ⟨Nat.zero_le _, Nat.zero_le _⟩ ?_
        refine lv_istore (lv' := [(10, .int (zI (-1))), (9, .int (zI (lowA w 12))), (4, .int (zI (lowA u1 (τ 7)))), (3, .int (zI (τ 7))), (0, .ref (a 0)), (1, .int (zI v)), (2, .int (zI w))]) hx hb dL_does_314 hl (by decide) rfl (fun ls hl => ?_)
        refine lv_iload_n hx hb dL_does_316 rfl (lv_at hl 3 rfl) ?_
        refine x_if_ne (tgt := 324) hx hb dL_does_317 (by decide) (by omega) (fun c_317 => ?_) (fun c_317 => ?_)
        · refine lv_aload_n hx hb dL_does_324 rfl (lv_at hl 4 rfl) ?_
          refine x_iconst hx hb dL_does_325 ?_
          refine x_iconst hx hb dL_does_326 ?_
          refine x_callVR (As := [.int (zI 0), .int (zI 1)]) (rest := []) S hK (p_of_1 l D cs a τ pd ln 0 (by first | exact hG | exact hG2) (by first | exact hk | omega)) (cwV 2 hts gL_does_X6_of rfl rfl rfl (by decide +kernel) ⟨(Nat.le_of_ble_eq_true rfl), (Nat.le_of_ble_eq_true rfl)⟩) (PW_rc hK hW) hW rfl hl.1 (Nat.le_of_ble_eq_true rfl) dL_does_327 ⟨Nat.zero_le _, Nat.zero_le _⟩ ?_
          refine lv_istore (lv' := [(11, .int (zI (cpow τ 0))), (10, .int (zI (-1))), (9, .int (zI (lowA w 12))), (4, .int (zI (lowA u1 (τ 7)))), (3, .int (zI (τ 7))), (0, .ref (a 0)), (1, .int (zI v)), (2, .int (zI w))]) hx hb dL_does_330 hl (by decide) rfl (fun ls hl => ?_)
          refine lv_aload_n hx hb dL_does_332 rfl (lv_at hl 5 rfl) ?_
          refine lv_iload hx hb dL_does_333 (lv_at hl 2 rfl) ?_
          refine x_callVM (As := [.int (zI (lowA w 12))]) (rest := []) S hK (p_turn_bad l D cs a τ pd ln (lowA w 12) (by first | exact hG | exact hG2) (by exact hI) (by first | exact hk | omega) (by omega)) (cwV 1 hts gL_does_X6_turn rfl rfl rfl (by decide +kernel) ⟨(Nat.le_of_ble_eq_true rfl), (Nat.le_of_ble_eq_true rfl)⟩) (PW_rc hK hW) hW rfl hl.1 (Nat.le_of_ble_eq_true rfl) dL_does_335 ⟨Nat.zero_le _, Nat.zero_le _⟩ hS (fun q hq => hq) (fun H locs hB hF hS => ?_)
          have hW : PW D cs a τ pd ln H := hB
          refine lv_istore (lv' := [(12, .int (zI (-1))), (11, .int (zI (cpow τ 0))), (10, .int (zI (-1))), (9, .int (zI (lowA w 12))), (4, .int (zI (lowA u1 (τ 7)))), (3, .int (zI (τ 7))), (0, .ref (a 0)), (1, .int (zI v)), (2, .int (zI w))]) hx hb dL_does_338 hl (by decide) rfl (fun ls hl => ?_)
          refine lv_iload hx hb dL_does_340 (lv_at hl 3 rfl) ?_
          refine lv_aload_n hx hb dL_does_342 rfl (lv_at hl 6 rfl) ?_
          refine x_iconst hx hb dL_does_343 ?_
          refine x_callVR (As := [.int (zI 3)]) (rest := [.int (zI (lowA w 12))]) S hK (p_count_3 l D cs a τ pd ln (by first | exact hG | exact hG2)) (cwV 1 hts gL_does_X6_count rfl rfl rfl (by decide +kernel) ⟨(Nat.le_of_ble_eq_true rfl), (Nat.le_of_ble_eq_true rfl)⟩) (PW_rc hK hW) hW rfl hl.1 (Nat.le_of_ble_eq_true rfl) dL_does_344 ⟨Nat.zero_le _, Nat.zero_le _⟩ ?_
          refine x_icmp_lt (tgt := 364) hx hb dL_does_347 (by decide) (by omega) (by omega) (fun c_347 => ?_) (fun c_347 => ?_)
          · exfalso; omega
          · refine lv_iload hx hb dL_does_350 (lv_at hl 0 rfl) ?_
            refine x_iconst hx hb dL_does_352 ?_
            refine x_icmp_ne (tgt := 360) hx hb dL_does_353 (by decide) (by decide) (by decide) (fun q => absurd q (by decide)) (fun _ => ?_)
            refine x_iconst hx hb dL_does_356 ?_
            refine lv_goto (tgt := 409) hx hb dL_does_357 (by decide) ?_
            exact x_zretM hx hb hr hlocks (by first | rfl | omega) (by exact Or.inr rfl) ⟨_, _, _, hW, by first | exact hG2 | exact GD_mono hG2 (by omega) (by omega) | exact GD_mono hG (by omega) (by omega), by omega⟩ hS dL_does_409
        · exfalso; omega
    by_cases k_29_5 : lowA v 18 = 5
    · refine x_tabIn (k := 5) (off := 270) (tgt := 299) hx hb dL_does_29 k_29_5 (by decide) (by decide) (by decide) rfl (by decide) ?_
      refine lv_iload_n hx hb dL_does_299 rfl (lv_at hl 4 rfl) ?_
      refine x_bipush hx hb dL_does_300 (by decide +kernel) ?_
      refine x_callSR (As := [.int (zI w), .int (zI 12)]) (rest := []) S hK (l_low l D cs w 12 (by omega)) (va_cwS 2 hts gL_does_L_low rfl rfl rfl (by decide +kernel) ⟨(Nat.le_of_ble_eq_true rfl), (Nat.le_of_ble_eq_true rfl)⟩) trivial rfl hl.1 (Nat.le_of_ble_eq_true rfl) dL_does_302 ⟨Nat.zero_le _, Nat.zero_le _⟩ ?_
      have hwh := lowA_rng w (nn := 12) (by decide)
      refine lv_istore (lv' := [(9, .int (zI (lowA w 12))), (4, .int (zI (lowA u1 (τ 7)))), (3, .int (zI (τ 7))), (0, .ref (a 0)), (1, .int (zI v)), (2, .int (zI w))]) hx hb dL_does_305 hl (by decide) rfl (fun ls hl => ?_)
      refine lv_aload_n hx hb dL_does_307 rfl (lv_at hl 3 rfl) ?_
      refine lv_iload hx hb dL_does_308 (lv_at hl 0 rfl) ?_
      refine x_iconst hx hb dL_does_310 ?_
      by_cases z_311 : (lowA w 12) < τ 8
      · obtain ⟨hG2, ⟨e7, e6, ep⟩, e8, e1, eon, eof⟩ := tn_all hG (k := (lowA w 12)) (by omega)
        have hll := gd_l hG (k := (lowA w 12)) (by omega)
        have hcp := cpow_rng (gd_g hG).1 0
        refine x_callVR (As := [.int (zI (lowA w 12)), .int (zI 2)]) (rest := []) S hK (p_ofLoad_2 l D cs a τ pd ln (lowA w 12) (by first | exact hG | exact hG2) (by first | exact hk | omega)) (cwV 2 hts gL_does_X6_ofLoad rfl rfl rfl (by decide +kernel) ⟨(Nat.le_of_ble_eq_true rfl), (Nat.le_of_ble_eq_true rfl)⟩) (PW_rc hK hW) hW rfl hl.1 (Nat.le_of_ble_eq_true rfl) dL_does_311 ⟨Nat.zero_le _, Nat.zero_le _⟩ ?_
        refine lv_istore (lv' := [(10, .int (zI (τ (102 + 3 * (lowA w 12) + 2)))), (9, .int (zI (lowA w 12))), (4, .int (zI (lowA u1 (τ 7)))), (3, .int (zI (τ 7))), (0, .ref (a 0)), (1, .int (zI v)), (2, .int (zI w))]) hx hb dL_does_314 hl (by decide) rfl (fun ls hl => ?_)
        refine lv_iload_n hx hb dL_does_316 rfl (lv_at hl 3 rfl) ?_
        refine x_if_ne (tgt := 324) hx hb dL_does_317 (by decide) (by omega) (fun c_317 => ?_) (fun c_317 => ?_)
        · refine lv_aload_n hx hb dL_does_324 rfl (lv_at hl 4 rfl) ?_
          refine x_iconst hx hb dL_does_325 ?_
          refine x_iconst hx hb dL_does_326 ?_
          refine x_callVR (As := [.int (zI 0), .int (zI 1)]) (rest := []) S hK (p_of_1 l D cs a τ pd ln 0 (by first | exact hG | exact hG2) (by first | exact hk | omega)) (cwV 2 hts gL_does_X6_of rfl rfl rfl (by decide +kernel) ⟨(Nat.le_of_ble_eq_true rfl), (Nat.le_of_ble_eq_true rfl)⟩) (PW_rc hK hW) hW rfl hl.1 (Nat.le_of_ble_eq_true rfl) dL_does_327 ⟨Nat.zero_le _, Nat.zero_le _⟩ ?_
          refine lv_istore (lv' := [(11, .int (zI (cpow τ 0))), (10, .int (zI (τ (102 + 3 * (lowA w 12) + 2)))), (9, .int (zI (lowA w 12))), (4, .int (zI (lowA u1 (τ 7)))), (3, .int (zI (τ 7))), (0, .ref (a 0)), (1, .int (zI v)), (2, .int (zI w))]) hx hb dL_does_330 hl (by decide) rfl (fun ls hl => ?_)
          refine lv_aload_n hx hb dL_does_332 rfl (lv_at hl 5 rfl) ?_
          refine lv_iload hx hb dL_does_333 (lv_at hl 2 rfl) ?_
          refine x_callVM (As := [.int (zI (lowA w 12))]) (rest := []) S hK (p_turn l D cs a τ pd ln (lowA w 12) (by first | exact hG | exact hG2) (by exact hI) (by first | exact hk | omega)) (cwV 1 hts gL_does_X6_turn rfl rfl rfl (by decide +kernel) ⟨(Nat.le_of_ble_eq_true rfl), (Nat.le_of_ble_eq_true rfl)⟩) (PW_rc hK hW) hW rfl hl.1 (Nat.le_of_ble_eq_true rfl) dL_does_335 ⟨Nat.zero_le _, Nat.zero_le _⟩ hS (fun q hq => hq) (fun H locs hB hF hS => ?_)
          have hW : PW D cs a (swF τ (lowA w 12)) pd ln H := hB
          refine lv_istore (lv' := [(12, .int (zI (1 - τ (102 + 3 * (lowA w 12) + 2)))), (11, .int (zI (cpow τ 0))), (10, .int (zI (τ (102 + 3 * (lowA w 12) + 2)))), (9, .int (zI (lowA w 12))), (4, .int (zI (lowA u1 (τ 7)))), (3, .int (zI (τ 7))), (0, .ref (a 0)), (1, .int (zI v)), (2, .int (zI w))]) hx hb dL_does_338 hl (by decide) rfl (fun ls hl => ?_)
          refine lv_iload hx hb dL_does_340 (lv_at hl 3 rfl) ?_
          refine lv_aload_n hx hb dL_does_342 rfl (lv_at hl 6 rfl) ?_
          refine x_iconst hx hb dL_does_343 ?_
          refine x_callVR (As := [.int (zI 3)]) (rest := [.int (zI (lowA w 12))]) S hK (p_count_3 l D cs a (swF τ (lowA w 12)) pd ln (by first | exact hG | exact hG2)) (cwV 1 hts gL_does_X6_count rfl rfl rfl (by decide +kernel) ⟨(Nat.le_of_ble_eq_true rfl), (Nat.le_of_ble_eq_true rfl)⟩) (PW_rc hK hW) hW rfl hl.1 (Nat.le_of_ble_eq_true rfl) dL_does_344 ⟨Nat.zero_le _, Nat.zero_le _⟩ ?_
          refine x_icmp_lt (tgt := 364) hx hb dL_does_347 (by decide) (by omega) (by omega) (fun c_347 => ?_) (fun c_347 => ?_)
          · refine lv_iload hx hb dL_does_364 (lv_at hl 0 rfl) ?_
            refine x_iconst hx hb dL_does_366 ?_
            refine lv_iload hx hb dL_does_367 (lv_at hl 2 rfl) ?_
            refine x_isub hx hb dL_does_369 ?_
            refine x_icmp_neE (tgt := 408) hx hb dL_does_370 (by decide) (by omega) ?_
            refine lv_aload_n hx hb dL_does_373 rfl (lv_at hl 6 rfl) ?_
            refine x_iconst hx hb dL_does_374 ?_
            refine x_iconst hx hb dL_does_375 ?_
            refine x_callVR (As := [.int (zI 0), .int (zI 1)]) (rest := []) S hK (p_of_1 l D cs a (swF τ (lowA w 12)) pd ln 0 (by first | exact hG | exact hG2) (by first | exact hk | omega)) (cwV 2 hts gL_does_X6_of rfl rfl rfl (by decide +kernel) ⟨(Nat.le_of_ble_eq_true rfl), (Nat.le_of_ble_eq_true rfl)⟩) (PW_rc hK hW) hW rfl hl.1 (Nat.le_of_ble_eq_true rfl) dL_does_376 ⟨Nat.zero_le _, Nat.zero_le _⟩ ?_
            refine lv_iload hx hb dL_does_379 (lv_at hl 1 rfl) ?_
            refine lv_iload hx hb dL_does_381 (lv_at hl 0 rfl) ?_
            refine x_iconst hx hb dL_does_383 ?_
            refine x_icmp_ne (tgt := 391) hx hb dL_does_384 (by decide) (by omega) (by omega) (fun c_384 => ?_) (fun c_384 => ?_)
            · refine x_iconst hx hb dL_does_391 ?_
              refine lv_aload_n hx hb dL_does_392 rfl (lv_at hl 6 rfl) ?_
              refine lv_iload hx hb dL_does_393 (lv_at hl 3 rfl) ?_
              refine x_iconst hx hb dL_does_395 ?_
              refine x_callVR (As := [.int (zI (lowA w 12)), .int (zI 1)]) (rest := [.int (zI ((-1))), .int (zI (cpow τ 0)), .int (zI (cpow (swF τ (lowA w 12)) 0))]) S hK (p_ofLoad_1 l D cs a (swF τ (lowA w 12)) pd ln (lowA w 12) (by first | exact hG | exact hG2) (by first | exact hk | omega)) (cwV 2 hts gL_does_X6_ofLoad rfl rfl rfl (by decide +kernel) ⟨(Nat.le_of_ble_eq_true rfl), (Nat.le_of_ble_eq_true rfl)⟩) (PW_rc hK hW) hW rfl hl.1 (Nat.le_of_ble_eq_true rfl) dL_does_396 ⟨Nat.zero_le _, Nat.zero_le _⟩ ?_
              refine x_imul hx hb dL_does_399 ?_
              refine x_iadd hx hb dL_does_400 ?_
              refine x_icmp_neE (tgt := 408) hx hb dL_does_401 (by decide) (by omega) ?_
              refine x_iconst hx hb dL_does_404 ?_
              refine lv_goto (tgt := 409) hx hb dL_does_405 (by decide) ?_
              exact x_zretM hx hb hr hlocks (by first | rfl | omega) (by exact Or.inr rfl) ⟨_, _, _, hW, by first | exact hG2 | exact GD_mono hG2 (by omega) (by omega) | exact GD_mono hG (by omega) (by omega), by omega⟩ hS dL_does_409
            · refine x_iconst hx hb dL_does_387 ?_
              refine lv_goto (tgt := 392) hx hb dL_does_388 (by decide) ?_
              refine lv_aload_n hx hb dL_does_392 rfl (lv_at hl 6 rfl) ?_
              refine lv_iload hx hb dL_does_393 (lv_at hl 3 rfl) ?_
              refine x_iconst hx hb dL_does_395 ?_
              refine x_callVR (As := [.int (zI (lowA w 12)), .int (zI 1)]) (rest := [.int (zI 1), .int (zI (cpow τ 0)), .int (zI (cpow (swF τ (lowA w 12)) 0))]) S hK (p_ofLoad_1 l D cs a (swF τ (lowA w 12)) pd ln (lowA w 12) (by first | exact hG | exact hG2) (by first | exact hk | omega)) (cwV 2 hts gL_does_X6_ofLoad rfl rfl rfl (by decide +kernel) ⟨(Nat.le_of_ble_eq_true rfl), (Nat.le_of_ble_eq_true rfl)⟩) (PW_rc hK hW) hW rfl hl.1 (Nat.le_of_ble_eq_true rfl) dL_does_396 ⟨Nat.zero_le _, Nat.zero_le _⟩ ?_
              refine x_imul hx hb dL_does_399 ?_
              refine x_iadd hx hb dL_does_400 ?_
              refine x_icmp_neE (tgt := 408) hx hb dL_does_401 (by decide) (by omega) ?_
              refine x_iconst hx hb dL_does_404 ?_
              refine lv_goto (tgt := 409) hx hb dL_does_405 (by decide) ?_
              exact x_zretM hx hb hr hlocks (by first | rfl | omega) (by exact Or.inr rfl) ⟨_, _, _, hW, by first | exact hG2 | exact GD_mono hG2 (by omega) (by omega) | exact GD_mono hG (by omega) (by omega), by omega⟩ hS dL_does_409
          · exfalso; omega
        · exfalso; omega
      · refine x_callVR (As := [.int (zI (lowA w 12)), .int (zI 2)]) (rest := []) S hK (p_ofLoad_bad l D cs a τ pd ln (lowA w 12) 2 (by first | exact hG | exact hG2) (by first | exact hk | omega) (by omega)) (cwV 2 hts gL_does_X6_ofLoad rfl rfl rfl (by decide +kernel) ⟨(Nat.le_of_ble_eq_true rfl), (Nat.le_of_ble_eq_true rfl)⟩) (PW_rc hK hW) hW rfl hl.1 (Nat.le_of_ble_eq_true rfl) dL_does_311 ⟨Nat.zero_le _, Nat.zero_le _⟩ ?_
        refine lv_istore (lv' := [(10, .int (zI (-1))), (9, .int (zI (lowA w 12))), (4, .int (zI (lowA u1 (τ 7)))), (3, .int (zI (τ 7))), (0, .ref (a 0)), (1, .int (zI v)), (2, .int (zI w))]) hx hb dL_does_314 hl (by decide) rfl (fun ls hl => ?_)
        refine lv_iload_n hx hb dL_does_316 rfl (lv_at hl 3 rfl) ?_
        refine x_if_ne (tgt := 324) hx hb dL_does_317 (by decide) (by omega) (fun c_317 => ?_) (fun c_317 => ?_)
        · refine lv_aload_n hx hb dL_does_324 rfl (lv_at hl 4 rfl) ?_
          refine x_iconst hx hb dL_does_325 ?_
          refine x_iconst hx hb dL_does_326 ?_
          refine x_callVR (As := [.int (zI 0), .int (zI 1)]) (rest := []) S hK (p_of_1 l D cs a τ pd ln 0 (by first | exact hG | exact hG2) (by first | exact hk | omega)) (cwV 2 hts gL_does_X6_of rfl rfl rfl (by decide +kernel) ⟨(Nat.le_of_ble_eq_true rfl), (Nat.le_of_ble_eq_true rfl)⟩) (PW_rc hK hW) hW rfl hl.1 (Nat.le_of_ble_eq_true rfl) dL_does_327 ⟨Nat.zero_le _, Nat.zero_le _⟩ ?_
          refine lv_istore (lv' := [(11, .int (zI (cpow τ 0))), (10, .int (zI (-1))), (9, .int (zI (lowA w 12))), (4, .int (zI (lowA u1 (τ 7)))), (3, .int (zI (τ 7))), (0, .ref (a 0)), (1, .int (zI v)), (2, .int (zI w))]) hx hb dL_does_330 hl (by decide) rfl (fun ls hl => ?_)
          refine lv_aload_n hx hb dL_does_332 rfl (lv_at hl 5 rfl) ?_
          refine lv_iload hx hb dL_does_333 (lv_at hl 2 rfl) ?_
          refine x_callVM (As := [.int (zI (lowA w 12))]) (rest := []) S hK (p_turn_bad l D cs a τ pd ln (lowA w 12) (by first | exact hG | exact hG2) (by exact hI) (by first | exact hk | omega) (by omega)) (cwV 1 hts gL_does_X6_turn rfl rfl rfl (by decide +kernel) ⟨(Nat.le_of_ble_eq_true rfl), (Nat.le_of_ble_eq_true rfl)⟩) (PW_rc hK hW) hW rfl hl.1 (Nat.le_of_ble_eq_true rfl) dL_does_335 ⟨Nat.zero_le _, Nat.zero_le _⟩ hS (fun q hq => hq) (fun H locs hB hF hS => ?_)
          have hW : PW D cs a τ pd ln H := hB
          refine lv_istore (lv' := [(12, .int (zI (-1))), (11, .int (zI (cpow τ 0))), (10, .int (zI (-1))), (9, .int (zI (lowA w 12))), (4, .int (zI (lowA u1 (τ 7)))), (3, .int (zI (τ 7))), (0, .ref (a 0)), (1, .int (zI v)), (2, .int (zI w))]) hx hb dL_does_338 hl (by decide) rfl (fun ls hl => ?_)
          refine lv_iload hx hb dL_does_340 (lv_at hl 3 rfl) ?_
          refine lv_aload_n hx hb dL_does_342 rfl (lv_at hl 6 rfl) ?_
          refine x_iconst hx hb dL_does_343 ?_
          refine x_callVR (As := [.int (zI 3)]) (rest := [.int (zI (lowA w 12))]) S hK (p_count_3 l D cs a τ pd ln (by first | exact hG | exact hG2)) (cwV 1 hts gL_does_X6_count rfl rfl rfl (by decide +kernel) ⟨(Nat.le_of_ble_eq_true rfl), (Nat.le_of_ble_eq_true rfl)⟩) (PW_rc hK hW) hW rfl hl.1 (Nat.le_of_ble_eq_true rfl) dL_does_344 ⟨Nat.zero_le _, Nat.zero_le _⟩ ?_
          refine x_icmp_lt (tgt := 364) hx hb dL_does_347 (by decide) (by omega) (by omega) (fun c_347 => ?_) (fun c_347 => ?_)
          · exfalso; omega
          · refine lv_iload hx hb dL_does_350 (lv_at hl 0 rfl) ?_
            refine x_iconst hx hb dL_does_352 ?_
            refine x_icmp_ne (tgt := 360) hx hb dL_does_353 (by decide) (by decide) (by decide) (fun q => absurd q (by decide)) (fun _ => ?_)
            refine x_iconst hx hb dL_does_356 ?_
            refine lv_goto (tgt := 409) hx hb dL_does_357 (by decide) ?_
            exact x_zretM hx hb hr hlocks (by first | rfl | omega) (by exact Or.inr rfl) ⟨_, _, _, hW, by first | exact hG2 | exact GD_mono hG2 (by omega) (by omega) | exact GD_mono hG (by omega) (by omega), by omega⟩ hS dL_does_409
        · exfalso; omega
    by_cases k_29_6 : lowA v 18 = 6
    · refine x_tabIn (k := 6) (off := 270) (tgt := 299) hx hb dL_does_29 k_29_6 (by decide) (by decide) (by decide) rfl (by decide) ?_
      refine lv_iload_n hx hb dL_does_299 rfl (lv_at hl 4 rfl) ?_
      refine x_bipush hx hb dL_does_300 (by decide +kernel) ?_
      refine x_callSR (As := [.int (zI w), .int (zI 12)]) (rest := []) S hK (l_low l D cs w 12 (by omega)) (va_cwS 2 hts gL_does_L_low rfl rfl rfl (by decide +kernel) ⟨(Nat.le_of_ble_eq_true rfl), (Nat.le_of_ble_eq_true rfl)⟩) trivial rfl hl.1 (Nat.le_of_ble_eq_true rfl) dL_does_302 ⟨Nat.zero_le _, Nat.zero_le _⟩ ?_
      have hwh := lowA_rng w (nn := 12) (by decide)
      refine lv_istore (lv' := [(9, .int (zI (lowA w 12))), (4, .int (zI (lowA u1 (τ 7)))), (3, .int (zI (τ 7))), (0, .ref (a 0)), (1, .int (zI v)), (2, .int (zI w))]) hx hb dL_does_305 hl (by decide) rfl (fun ls hl => ?_)
      refine lv_aload_n hx hb dL_does_307 rfl (lv_at hl 3 rfl) ?_
      refine lv_iload hx hb dL_does_308 (lv_at hl 0 rfl) ?_
      refine x_iconst hx hb dL_does_310 ?_
      by_cases z_311 : (lowA w 12) < τ 8
      · obtain ⟨hG2, ⟨e7, e6, ep⟩, e8, e1, eon, eof⟩ := tn_all hG (k := (lowA w 12)) (by omega)
        have hll := gd_l hG (k := (lowA w 12)) (by omega)
        have hcp := cpow_rng (gd_g hG).1 0
        refine x_callVR (As := [.int (zI (lowA w 12)), .int (zI 2)]) (rest := []) S hK (p_ofLoad_2 l D cs a τ pd ln (lowA w 12) (by first | exact hG | exact hG2) (by first | exact hk | omega)) (cwV 2 hts gL_does_X6_ofLoad rfl rfl rfl (by decide +kernel) ⟨(Nat.le_of_ble_eq_true rfl), (Nat.le_of_ble_eq_true rfl)⟩) (PW_rc hK hW) hW rfl hl.1 (Nat.le_of_ble_eq_true rfl) dL_does_311 ⟨Nat.zero_le _, Nat.zero_le _⟩ ?_
        refine lv_istore (lv' := [(10, .int (zI (τ (102 + 3 * (lowA w 12) + 2)))), (9, .int (zI (lowA w 12))), (4, .int (zI (lowA u1 (τ 7)))), (3, .int (zI (τ 7))), (0, .ref (a 0)), (1, .int (zI v)), (2, .int (zI w))]) hx hb dL_does_314 hl (by decide) rfl (fun ls hl => ?_)
        refine lv_iload_n hx hb dL_does_316 rfl (lv_at hl 3 rfl) ?_
        refine x_if_ne (tgt := 324) hx hb dL_does_317 (by decide) (by omega) (fun c_317 => ?_) (fun c_317 => ?_)
        · refine lv_aload_n hx hb dL_does_324 rfl (lv_at hl 4 rfl) ?_
          refine x_iconst hx hb dL_does_325 ?_
          refine x_iconst hx hb dL_does_326 ?_
          refine x_callVR (As := [.int (zI 0), .int (zI 1)]) (rest := []) S hK (p_of_1 l D cs a τ pd ln 0 (by first | exact hG | exact hG2) (by first | exact hk | omega)) (cwV 2 hts gL_does_X6_of rfl rfl rfl (by decide +kernel) ⟨(Nat.le_of_ble_eq_true rfl), (Nat.le_of_ble_eq_true rfl)⟩) (PW_rc hK hW) hW rfl hl.1 (Nat.le_of_ble_eq_true rfl) dL_does_327 ⟨Nat.zero_le _, Nat.zero_le _⟩ ?_
          refine lv_istore (lv' := [(11, .int (zI (cpow τ 0))), (10, .int (zI (τ (102 + 3 * (lowA w 12) + 2)))), (9, .int (zI (lowA w 12))), (4, .int (zI (lowA u1 (τ 7)))), (3, .int (zI (τ 7))), (0, .ref (a 0)), (1, .int (zI v)), (2, .int (zI w))]) hx hb dL_does_330 hl (by decide) rfl (fun ls hl => ?_)
          refine lv_aload_n hx hb dL_does_332 rfl (lv_at hl 5 rfl) ?_
          refine lv_iload hx hb dL_does_333 (lv_at hl 2 rfl) ?_
          refine x_callVM (As := [.int (zI (lowA w 12))]) (rest := []) S hK (p_turn l D cs a τ pd ln (lowA w 12) (by first | exact hG | exact hG2) (by exact hI) (by first | exact hk | omega)) (cwV 1 hts gL_does_X6_turn rfl rfl rfl (by decide +kernel) ⟨(Nat.le_of_ble_eq_true rfl), (Nat.le_of_ble_eq_true rfl)⟩) (PW_rc hK hW) hW rfl hl.1 (Nat.le_of_ble_eq_true rfl) dL_does_335 ⟨Nat.zero_le _, Nat.zero_le _⟩ hS (fun q hq => hq) (fun H locs hB hF hS => ?_)
          have hW : PW D cs a (swF τ (lowA w 12)) pd ln H := hB
          refine lv_istore (lv' := [(12, .int (zI (1 - τ (102 + 3 * (lowA w 12) + 2)))), (11, .int (zI (cpow τ 0))), (10, .int (zI (τ (102 + 3 * (lowA w 12) + 2)))), (9, .int (zI (lowA w 12))), (4, .int (zI (lowA u1 (τ 7)))), (3, .int (zI (τ 7))), (0, .ref (a 0)), (1, .int (zI v)), (2, .int (zI w))]) hx hb dL_does_338 hl (by decide) rfl (fun ls hl => ?_)
          refine lv_iload hx hb dL_does_340 (lv_at hl 3 rfl) ?_
          refine lv_aload_n hx hb dL_does_342 rfl (lv_at hl 6 rfl) ?_
          refine x_iconst hx hb dL_does_343 ?_
          refine x_callVR (As := [.int (zI 3)]) (rest := [.int (zI (lowA w 12))]) S hK (p_count_3 l D cs a (swF τ (lowA w 12)) pd ln (by first | exact hG | exact hG2)) (cwV 1 hts gL_does_X6_count rfl rfl rfl (by decide +kernel) ⟨(Nat.le_of_ble_eq_true rfl), (Nat.le_of_ble_eq_true rfl)⟩) (PW_rc hK hW) hW rfl hl.1 (Nat.le_of_ble_eq_true rfl) dL_does_344 ⟨Nat.zero_le _, Nat.zero_le _⟩ ?_
          refine x_icmp_lt (tgt := 364) hx hb dL_does_347 (by decide) (by omega) (by omega) (fun c_347 => ?_) (fun c_347 => ?_)
          · refine lv_iload hx hb dL_does_364 (lv_at hl 0 rfl) ?_
            refine x_iconst hx hb dL_does_366 ?_
            refine lv_iload hx hb dL_does_367 (lv_at hl 2 rfl) ?_
            refine x_isub hx hb dL_does_369 ?_
            refine x_icmp_neE (tgt := 408) hx hb dL_does_370 (by decide) (by omega) ?_
            refine lv_aload_n hx hb dL_does_373 rfl (lv_at hl 6 rfl) ?_
            refine x_iconst hx hb dL_does_374 ?_
            refine x_iconst hx hb dL_does_375 ?_
            refine x_callVR (As := [.int (zI 0), .int (zI 1)]) (rest := []) S hK (p_of_1 l D cs a (swF τ (lowA w 12)) pd ln 0 (by first | exact hG | exact hG2) (by first | exact hk | omega)) (cwV 2 hts gL_does_X6_of rfl rfl rfl (by decide +kernel) ⟨(Nat.le_of_ble_eq_true rfl), (Nat.le_of_ble_eq_true rfl)⟩) (PW_rc hK hW) hW rfl hl.1 (Nat.le_of_ble_eq_true rfl) dL_does_376 ⟨Nat.zero_le _, Nat.zero_le _⟩ ?_
            refine lv_iload hx hb dL_does_379 (lv_at hl 1 rfl) ?_
            refine lv_iload hx hb dL_does_381 (lv_at hl 0 rfl) ?_
            refine x_iconst hx hb dL_does_383 ?_
            refine x_icmp_ne (tgt := 391) hx hb dL_does_384 (by decide) (by omega) (by omega) (fun c_384 => ?_) (fun c_384 => ?_)
            · refine x_iconst hx hb dL_does_391 ?_
              refine lv_aload_n hx hb dL_does_392 rfl (lv_at hl 6 rfl) ?_
              refine lv_iload hx hb dL_does_393 (lv_at hl 3 rfl) ?_
              refine x_iconst hx hb dL_does_395 ?_
              refine x_callVR (As := [.int (zI (lowA w 12)), .int (zI 1)]) (rest := [.int (zI ((-1))), .int (zI (cpow τ 0)), .int (zI (cpow (swF τ (lowA w 12)) 0))]) S hK (p_ofLoad_1 l D cs a (swF τ (lowA w 12)) pd ln (lowA w 12) (by first | exact hG | exact hG2) (by first | exact hk | omega)) (cwV 2 hts gL_does_X6_ofLoad rfl rfl rfl (by decide +kernel) ⟨(Nat.le_of_ble_eq_true rfl), (Nat.le_of_ble_eq_true rfl)⟩) (PW_rc hK hW) hW rfl hl.1 (Nat.le_of_ble_eq_true rfl) dL_does_396 ⟨Nat.zero_le _, Nat.zero_le _⟩ ?_
              refine x_imul hx hb dL_does_399 ?_
              refine x_iadd hx hb dL_does_400 ?_
              refine x_icmp_neE (tgt := 408) hx hb dL_does_401 (by decide) (by omega) ?_
              refine x_iconst hx hb dL_does_404 ?_
              refine lv_goto (tgt := 409) hx hb dL_does_405 (by decide) ?_
              exact x_zretM hx hb hr hlocks (by first | rfl | omega) (by exact Or.inr rfl) ⟨_, _, _, hW, by first | exact hG2 | exact GD_mono hG2 (by omega) (by omega) | exact GD_mono hG (by omega) (by omega), by omega⟩ hS dL_does_409
            · refine x_iconst hx hb dL_does_387 ?_
              refine lv_goto (tgt := 392) hx hb dL_does_388 (by decide) ?_
              refine lv_aload_n hx hb dL_does_392 rfl (lv_at hl 6 rfl) ?_
              refine lv_iload hx hb dL_does_393 (lv_at hl 3 rfl) ?_
              refine x_iconst hx hb dL_does_395 ?_
              refine x_callVR (As := [.int (zI (lowA w 12)), .int (zI 1)]) (rest := [.int (zI 1), .int (zI (cpow τ 0)), .int (zI (cpow (swF τ (lowA w 12)) 0))]) S hK (p_ofLoad_1 l D cs a (swF τ (lowA w 12)) pd ln (lowA w 12) (by first | exact hG | exact hG2) (by first | exact hk | omega)) (cwV 2 hts gL_does_X6_ofLoad rfl rfl rfl (by decide +kernel) ⟨(Nat.le_of_ble_eq_true rfl), (Nat.le_of_ble_eq_true rfl)⟩) (PW_rc hK hW) hW rfl hl.1 (Nat.le_of_ble_eq_true rfl) dL_does_396 ⟨Nat.zero_le _, Nat.zero_le _⟩ ?_
              refine x_imul hx hb dL_does_399 ?_
              refine x_iadd hx hb dL_does_400 ?_
              refine x_icmp_neE (tgt := 408) hx hb dL_does_401 (by decide) (by omega) ?_
              refine x_iconst hx hb dL_does_404 ?_
              refine lv_goto (tgt := 409) hx hb dL_does_405 (by decide) ?_
              exact x_zretM hx hb hr hlocks (by first | rfl | omega) (by exact Or.inr rfl) ⟨_, _, _, hW, by first | exact hG2 | exact GD_mono hG2 (by omega) (by omega) | exact GD_mono hG (by omega) (by omega), by omega⟩ hS dL_does_409
          · exfalso; omega
        · exfalso; omega
      · refine x_callVR (As := [.int (zI (lowA w 12)), .int (zI 2)]) (rest := []) S hK (p_ofLoad_bad l D cs a τ pd ln (lowA w 12) 2 (by first | exact hG | exact hG2) (by first | exact hk | omega) (by omega)) (cwV 2 hts gL_does_X6_ofLoad rfl rfl rfl (by decide +kernel) ⟨(Nat.le_of_ble_eq_true rfl), (Nat.le_of_ble_eq_true rfl)⟩) (PW_rc hK hW) hW rfl hl.1 (Nat.le_of_ble_eq_true rfl) dL_does_311 ⟨Nat.zero_le _, Nat.zero_le _⟩ ?_
        refine lv_istore (lv' := [(10, .int (zI (-1))), (9, .int (zI (lowA w 12))), (4, .int (zI (lowA u1 (τ 7)))), (3, .int (zI (τ 7))), (0, .ref (a 0)), (1, .int (zI v)), (2, .int (zI w))]) hx hb dL_does_314 hl (by decide) rfl (fun ls hl => ?_)
        refine lv_iload_n hx hb dL_does_316 rfl (lv_at hl 3 rfl) ?_
        refine x_if_ne (tgt := 324) hx hb dL_does_317 (by decide) (by omega) (fun c_317 => ?_) (fun c_317 => ?_)
        · refine lv_aload_n hx hb dL_does_324 rfl (lv_at hl 4 rfl) ?_
          refine x_iconst hx hb dL_does_325 ?_
          refine x_iconst hx hb dL_does_326 ?_
          refine x_callVR (As := [.int (zI 0), .int (zI 1)]) (rest := []) S hK (p_of_1 l D cs a τ pd ln 0 (by first | exact hG | exact hG2) (by first | exact hk | omega)) (cwV 2 hts gL_does_X6_of rfl rfl rfl (by decide +kernel) ⟨(Nat.le_of_ble_eq_true rfl), (Nat.le_of_ble_eq_true rfl)⟩) (PW_rc hK hW) hW rfl hl.1 (Nat.le_of_ble_eq_true rfl) dL_does_327 ⟨Nat.zero_le _, Nat.zero_le _⟩ ?_
          refine lv_istore (lv' := [(11, .int (zI (cpow τ 0))), (10, .int (zI (-1))), (9, .int (zI (lowA w 12))), (4, .int (zI (lowA u1 (τ 7)))), (3, .int (zI (τ 7))), (0, .ref (a 0)), (1, .int (zI v)), (2, .int (zI w))]) hx hb dL_does_330 hl (by decide) rfl (fun ls hl => ?_)
          refine lv_aload_n hx hb dL_does_332 rfl (lv_at hl 5 rfl) ?_
          refine lv_iload hx hb dL_does_333 (lv_at hl 2 rfl) ?_
          refine x_callVM (As := [.int (zI (lowA w 12))]) (rest := []) S hK (p_turn_bad l D cs a τ pd ln (lowA w 12) (by first | exact hG | exact hG2) (by exact hI) (by first | exact hk | omega) (by omega)) (cwV 1 hts gL_does_X6_turn rfl rfl rfl (by decide +kernel) ⟨(Nat.le_of_ble_eq_true rfl), (Nat.le_of_ble_eq_true rfl)⟩) (PW_rc hK hW) hW rfl hl.1 (Nat.le_of_ble_eq_true rfl) dL_does_335 ⟨Nat.zero_le _, Nat.zero_le _⟩ hS (fun q hq => hq) (fun H locs hB hF hS => ?_)
          have hW : PW D cs a τ pd ln H := hB
          refine lv_istore (lv' := [(12, .int (zI (-1))), (11, .int (zI (cpow τ 0))), (10, .int (zI (-1))), (9, .int (zI (lowA w 12))), (4, .int (zI (lowA u1 (τ 7)))), (3, .int (zI (τ 7))), (0, .ref (a 0)), (1, .int (zI v)), (2, .int (zI w))]) hx hb dL_does_338 hl (by decide) rfl (fun ls hl => ?_)
          refine lv_iload hx hb dL_does_340 (lv_at hl 3 rfl) ?_
          refine lv_aload_n hx hb dL_does_342 rfl (lv_at hl 6 rfl) ?_
          refine x_iconst hx hb dL_does_343 ?_
          refine x_callVR (As := [.int (zI 3)]) (rest := [.int (zI (lowA w 12))]) S hK (p_count_3 l D cs a τ pd ln (by first | exact hG | exact hG2)) (cwV 1 hts gL_does_X6_count rfl rfl rfl (by decide +kernel) ⟨(Nat.le_of_ble_eq_true rfl), (Nat.le_of_ble_eq_true rfl)⟩) (PW_rc hK hW) hW rfl hl.1 (Nat.le_of_ble_eq_true rfl) dL_does_344 ⟨Nat.zero_le _, Nat.zero_le _⟩ ?_
          refine x_icmp_lt (tgt := 364) hx hb dL_does_347 (by decide) (by omega) (by omega) (fun c_347 => ?_) (fun c_347 => ?_)
          · exfalso; omega
          · refine lv_iload hx hb dL_does_350 (lv_at hl 0 rfl) ?_
            refine x_iconst hx hb dL_does_352 ?_
            refine x_icmp_ne (tgt := 360) hx hb dL_does_353 (by decide) (by decide) (by decide) (fun q => absurd q (by decide)) (fun _ => ?_)
            refine x_iconst hx hb dL_does_356 ?_
            refine lv_goto (tgt := 409) hx hb dL_does_357 (by decide) ?_
            exact x_zretM hx hb hr hlocks (by first | rfl | omega) (by exact Or.inr rfl) ⟨_, _, _, hW, by first | exact hG2 | exact GD_mono hG2 (by omega) (by omega) | exact GD_mono hG (by omega) (by omega), by omega⟩ hS dL_does_409
        · exfalso; omega
    by_cases k_29_7 : lowA v 18 = 7
    · refine x_tabIn (k := 7) (off := 381) (tgt := 410) hx hb dL_does_29 k_29_7 (by decide) (by decide) (by decide) rfl (by decide) ?_
      refine lv_iload_n hx hb dL_does_410 rfl (lv_at hl 1 rfl) ?_
      refine x_if_ne (tgt := 418) hx hb dL_does_411 (by decide) (by omega) (fun c_411 => ?_) (fun c_411 => ?_)
      · have hmm := gd_m hG (k := (lowA u1 (τ 7))) (by omega)
        have hkk := gd_k hG (k := (lowA u1 (τ 7))) (by omega)
        refine lv_aload_n hx hb dL_does_418 rfl (lv_at hl 2 rfl) ?_
        refine lv_iload hx hb dL_does_419 (lv_at hl 0 rfl) ?_
        refine x_bipush hx hb dL_does_421 (by decide +kernel) ?_
        refine x_callVR (As := [.int (zI (lowA u1 (τ 7))), .int (zI 7)]) (rest := []) S hK (p_of_7 l D cs a τ pd ln (lowA u1 (τ 7)) (by first | exact hG | exact hG2) (by first | exact hk | omega)) (cwV 2 hts gL_does_X6_of rfl rfl rfl (by decide +kernel) ⟨(Nat.le_of_ble_eq_true rfl), (Nat.le_of_ble_eq_true rfl)⟩) (PW_rc hK hW) hW rfl hl.1 (Nat.le_of_ble_eq_true rfl) dL_does_423 ⟨Nat.zero_le _, Nat.zero_le _⟩ ?_
        refine lv_istore (lv' := [(13, .int (zI (τ (11 + 13 * (lowA u1 (τ 7)) + 6)))), (4, .int (zI (lowA u1 (τ 7)))), (3, .int (zI (τ 7))), (0, .ref (a 0)), (1, .int (zI v)), (2, .int (zI w))]) hx hb dL_does_426 hl (by decide) rfl (fun ls hl => ?_)
        refine lv_iload_n hx hb dL_does_428 rfl (lv_at hl 2 rfl) ?_
        refine x_if_ne (tgt := 436) hx hb dL_does_429 (by decide) (by omega) (fun c_429 => ?_) (fun c_429 => ?_)
        · refine lv_aload_n hx hb dL_does_436 rfl (lv_at hl 3 rfl) ?_
          refine lv_iload hx hb dL_does_437 (lv_at hl 1 rfl) ?_
          refine x_bipush hx hb dL_does_439 (by decide +kernel) ?_
          refine x_callVR (As := [.int (zI (lowA u1 (τ 7))), .int (zI 8)]) (rest := []) S hK (p_of_8 l D cs a τ pd ln (lowA u1 (τ 7)) (by first | exact hG | exact hG2) (by first | exact hk | omega)) (cwV 2 hts gL_does_X6_of rfl rfl rfl (by decide +kernel) ⟨(Nat.le_of_ble_eq_true rfl), (Nat.le_of_ble_eq_true rfl)⟩) (PW_rc hK hW) hW rfl hl.1 (Nat.le_of_ble_eq_true rfl) dL_does_441 ⟨Nat.zero_le _, Nat.zero_le _⟩ ?_
          refine lv_istore (lv' := [(14, .int (zI (τ (11 + 13 * (lowA u1 (τ 7)) + 7)))), (13, .int (zI (τ (11 + 13 * (lowA u1 (τ 7)) + 6)))), (4, .int (zI (lowA u1 (τ 7)))), (3, .int (zI (τ 7))), (0, .ref (a 0)), (1, .int (zI v)), (2, .int (zI w))]) hx hb dL_does_444 hl (by decide) rfl (fun ls hl => ?_)
          refine lv_iload_n hx hb dL_does_446 rfl (lv_at hl 5 rfl) ?_
          refine x_bipush hx hb dL_does_447 (by decide +kernel) ?_
          refine lv_ishr hx hb dL_does_449 ?_
          refine lv_topi (fun v_ ev_ => ?_)
          obtain ⟨u4, hu4, rfl⟩ : ∃ z : Int, (-2147483648 ≤ z ∧ z < 2147483648) ∧ v_ = zI z := ⟨v_.toInt, zI_rng v_, (zI_of v_).symm⟩
          clear ev_
          refine x_iconst hx hb dL_does_450 ?_
          refine lv_iand hx hb dL_does_451 ?_
          refine lv_topi (fun v_ ev_ => ?_)
          obtain ⟨u5, hu5, rfl⟩ : ∃ z : Int, (-2147483648 ≤ z ∧ z < 2147483648) ∧ v_ = zI z := ⟨v_.toInt, zI_rng v_, (zI_of v_).symm⟩
          clear ev_
          refine x_if_eq (tgt := 501) hx hb dL_does_452 (by decide) (by omega) (fun c_452 => ?_) (fun c_452 => ?_)
          · refine x_iconst hx hb dL_does_501 ?_
            refine lv_goto (tgt := 506) hx hb dL_does_502 (by decide) ?_
            exact x_zretM hx hb hr hlocks (by first | rfl | omega) (by exact Or.inr rfl) ⟨_, _, _, hW, by first | exact hG2 | exact GD_mono hG2 (by omega) (by omega) | exact GD_mono hG (by omega) (by omega), by omega⟩ hS dL_does_506
          · have hwe := wnT_e (k := (lowA u1 (τ 7))) hme
            refine lv_aload_n hx hb dL_does_455 rfl (lv_at hl 4 rfl) ?_
            refine lv_iload hx hb dL_does_456 (lv_at hl 2 rfl) ?_
            by_cases z_458 : wnT τ (lowA u1 (τ 7)) = 0
            · obtain ⟨hG2, ⟨e7, e6⟩, e1⟩ := tp_all hG z_458
              refine x_callVM (As := [.int (zI (lowA u1 (τ 7)))]) (rest := []) S hK (p_tamper l D cs a τ pd ln (lowA u1 (τ 7)) (by first | exact hG | exact hG2) (by exact hI) (by omega)) (cwV 1 hts gL_does_X6_tamper rfl rfl rfl (by decide +kernel) ⟨(Nat.le_of_ble_eq_true rfl), (Nat.le_of_ble_eq_true rfl)⟩) (PW_rc hK hW) hW rfl hl.1 (Nat.le_of_ble_eq_true rfl) dL_does_458 ⟨Nat.zero_le _, Nat.zero_le _⟩ hS (fun q hq => hq) (fun H locs hB hF hS => ?_)
              have hW : PW D cs a (bsF τ (lowA u1 (τ 7))) pd ln H := hB
              refine lv_iload_n hx hb dL_does_461 rfl (lv_at hl 3 rfl) ?_
              refine x_if_ne (tgt := 469) hx hb dL_does_462 (by decide) (by omega) (fun c_462 => ?_) (fun c_462 => ?_)
              · refine lv_iload hx hb dL_does_469 (lv_at hl 0 rfl) ?_
                refine x_iconst hx hb dL_does_471 ?_
                refine x_icmp_ne (tgt := 480) hx hb dL_does_472 (by decide) (by omega) (by omega) (fun c_472 => ?_) (fun c_472 => ?_)
                · refine lv_iload hx hb dL_does_480 (lv_at hl 1 rfl) ?_
                  refine x_icmp_neE (tgt := 505) hx hb dL_does_482 (by decide) (by omega) ?_
                  refine lv_iload_n hx hb dL_does_485 rfl (lv_at hl 3 rfl) ?_
                  refine x_if_eq (tgt := 501) hx hb dL_does_486 (by decide) (by omega) (fun c_486 => ?_) (fun c_486 => ?_)
                  · exfalso; omega
                  · refine lv_aload_n hx hb dL_does_489 rfl (lv_at hl 4 rfl) ?_
                    refine lv_iload hx hb dL_does_490 (lv_at hl 2 rfl) ?_
                    refine x_bipush hx hb dL_does_492 (by decide +kernel) ?_
                    refine x_callVR (As := [.int (zI (lowA u1 (τ 7))), .int (zI 8)]) (rest := []) S hK (p_of_8 l D cs a (bsF τ (lowA u1 (τ 7))) pd ln (lowA u1 (τ 7)) (by first | exact hG | exact hG2) (by first | exact hk | omega)) (cwV 2 hts gL_does_X6_of rfl rfl rfl (by decide +kernel) ⟨(Nat.le_of_ble_eq_true rfl), (Nat.le_of_ble_eq_true rfl)⟩) (PW_rc hK hW) hW rfl hl.1 (Nat.le_of_ble_eq_true rfl) dL_does_494 ⟨Nat.zero_le _, Nat.zero_le _⟩ ?_
                    refine x_iconst hx hb dL_does_497 ?_
                    refine x_icmp_neE (tgt := 505) hx hb dL_does_498 (by decide) (by omega) ?_
                    refine x_iconst hx hb dL_does_501 ?_
                    refine lv_goto (tgt := 506) hx hb dL_does_502 (by decide) ?_
                    exact x_zretM hx hb hr hlocks (by first | rfl | omega) (by exact Or.inr rfl) ⟨_, _, _, hW, by first | exact hG2 | exact GD_mono hG2 (by omega) (by omega) | exact GD_mono hG (by omega) (by omega), by omega⟩ hS dL_does_506
                · exfalso; omega
              · exfalso; omega
            · refine x_callVM (As := [.int (zI (lowA u1 (τ 7)))]) (rest := []) S hK (p_tamper_bad l D cs a τ pd ln (lowA u1 (τ 7)) (by first | exact hG | exact hG2) (by exact hI) (by first | exact hk | omega) (by omega)) (cwV 1 hts gL_does_X6_tamper rfl rfl rfl (by decide +kernel) ⟨(Nat.le_of_ble_eq_true rfl), (Nat.le_of_ble_eq_true rfl)⟩) (PW_rc hK hW) hW rfl hl.1 (Nat.le_of_ble_eq_true rfl) dL_does_458 ⟨Nat.zero_le _, Nat.zero_le _⟩ hS (fun q hq => hq) (fun H locs hB hF hS => ?_)
              have hW : PW D cs a τ pd ln H := hB
              refine lv_iload_n hx hb dL_does_461 rfl (lv_at hl 3 rfl) ?_
              refine x_if_ne (tgt := 469) hx hb dL_does_462 (by decide) (by omega) (fun c_462 => ?_) (fun c_462 => ?_)
              · refine lv_iload hx hb dL_does_469 (lv_at hl 0 rfl) ?_
                refine x_iconst hx hb dL_does_471 ?_
                refine x_icmp_ne (tgt := 480) hx hb dL_does_472 (by decide) (by omega) (by omega) (fun c_472 => ?_) (fun c_472 => ?_)
                · exfalso; omega
                · refine x_bipush hx hb dL_does_475 (by decide +kernel) ?_
                  refine lv_goto (tgt := 482) hx hb dL_does_477 (by decide) ?_
                  refine x_icmp_neE (tgt := 505) hx hb dL_does_482 (by decide) (by omega) ?_
                  refine lv_iload_n hx hb dL_does_485 rfl (lv_at hl 3 rfl) ?_
                  refine x_if_eq (tgt := 501) hx hb dL_does_486 (by decide) (by omega) (fun c_486 => ?_) (fun c_486 => ?_)
                  · exfalso; omega
                  · refine lv_aload_n hx hb dL_does_489 rfl (lv_at hl 4 rfl) ?_
                    refine lv_iload hx hb dL_does_490 (lv_at hl 2 rfl) ?_
                    refine x_bipush hx hb dL_does_492 (by decide +kernel) ?_
                    refine x_callVR (As := [.int (zI (lowA u1 (τ 7))), .int (zI 8)]) (rest := []) S hK (p_of_8 l D cs a τ pd ln (lowA u1 (τ 7)) (by first | exact hG | exact hG2) (by first | exact hk | omega)) (cwV 2 hts gL_does_X6_of rfl rfl rfl (by decide +kernel) ⟨(Nat.le_of_ble_eq_true rfl), (Nat.le_of_ble_eq_true rfl)⟩) (PW_rc hK hW) hW rfl hl.1 (Nat.le_of_ble_eq_true rfl) dL_does_494 ⟨Nat.zero_le _, Nat.zero_le _⟩ ?_
                    refine x_iconst hx hb dL_does_497 ?_
                    refine x_icmp_neE (tgt := 505) hx hb dL_does_498 (by decide) (by omega) ?_
                    refine x_iconst hx hb dL_does_501 ?_
                    refine lv_goto (tgt := 506) hx hb dL_does_502 (by decide) ?_
                    exact x_zretM hx hb hr hlocks (by first | rfl | omega) (by exact Or.inr rfl) ⟨_, _, _, hW, by first | exact hG2 | exact GD_mono hG2 (by omega) (by omega) | exact GD_mono hG (by omega) (by omega), by omega⟩ hS dL_does_506
              · exfalso; omega
        · exfalso; omega
      · exfalso; omega
    by_cases k_29_8 : lowA v 18 = 8
    · refine x_tabIn (k := 8) (off := 478) (tgt := 507) hx hb dL_does_29 k_29_8 (by decide) (by decide) (by decide) rfl (by decide) ?_
      refine lv_iload_n hx hb dL_does_507 rfl (lv_at hl 1 rfl) ?_
      refine x_if_ne (tgt := 528) hx hb dL_does_508 (by decide) (by omega) (fun c_508 => ?_) (fun c_508 => ?_)
      · have hk : 0 ≤ (lowA u1 (τ 7)) ∧ (lowA u1 (τ 7)) < τ 7 := by omega
        obtain ⟨hG2, ⟨e7, e6, e3⟩, -⟩ := vs_all hG hN9 hk
        refine lv_aload_n hx hb dL_does_528 rfl (lv_at hl 2 rfl) ?_
        refine lv_iload hx hb dL_does_529 (lv_at hl 0 rfl) ?_
        refine x_callSM (As := [.ref (a 0), .int (zI (lowA u1 (τ 7)))]) (rest := []) S hK (l_isVisited l D cs a τ pd ln (lowA u1 (τ 7)) _ (by first | exact hG | exact hG2) (by exact hI) (by first | exact hk | omega) (by omega)) (va_cwS 2 hts gL_does_L_isVisited rfl rfl rfl (by decide +kernel) ⟨(Nat.le_of_ble_eq_true rfl), (Nat.le_of_ble_eq_true rfl)⟩) hW rfl hl.1 (Nat.le_of_ble_eq_true rfl) dL_does_531 ⟨Nat.zero_le _, Nat.zero_le _⟩ hS (fun q hq => hq) (fun H locs hB hF hS => ?_)
        have hW : PW D cs a (inF τ (lowA u1 (τ 7))) pd ln H := hB
        exact x_zretM hx hb hr hlocks (by first | rfl | omega) (by exact Or.inr rfl) ⟨_, _, _, hW, by first | exact hG2 | exact GD_mono hG2 (by omega) (by omega) | exact GD_mono hG (by omega) (by omega), by omega⟩ hS dL_does_534
      · exfalso; omega
    by_cases k_29_9 : lowA v 18 = 9
    · refine x_tabIn (k := 9) (off := 478) (tgt := 507) hx hb dL_does_29 k_29_9 (by decide) (by decide) (by decide) rfl (by decide) ?_
      refine lv_iload_n hx hb dL_does_507 rfl (lv_at hl 1 rfl) ?_
      refine x_if_ne (tgt := 528) hx hb dL_does_508 (by decide) (by omega) (fun c_508 => ?_) (fun c_508 => ?_)
      · have hk : 0 ≤ (lowA u1 (τ 7)) ∧ (lowA u1 (τ 7)) < τ 7 := by omega
        obtain ⟨hG2, ⟨e7, e6, e3⟩, -⟩ := vs_all hG hN9 hk
        refine lv_aload_n hx hb dL_does_528 rfl (lv_at hl 2 rfl) ?_
        refine lv_iload hx hb dL_does_529 (lv_at hl 0 rfl) ?_
        refine x_callSM (As := [.ref (a 0), .int (zI (lowA u1 (τ 7)))]) (rest := []) S hK (l_isVisited l D cs a τ pd ln (lowA u1 (τ 7)) _ (by first | exact hG | exact hG2) (by exact hI) (by first | exact hk | omega) (by omega)) (va_cwS 2 hts gL_does_L_isVisited rfl rfl rfl (by decide +kernel) ⟨(Nat.le_of_ble_eq_true rfl), (Nat.le_of_ble_eq_true rfl)⟩) hW rfl hl.1 (Nat.le_of_ble_eq_true rfl) dL_does_531 ⟨Nat.zero_le _, Nat.zero_le _⟩ hS (fun q hq => hq) (fun H locs hB hF hS => ?_)
        have hW : PW D cs a (inF τ (lowA u1 (τ 7))) pd ln H := hB
        exact x_zretM hx hb hr hlocks (by first | rfl | omega) (by exact Or.inr rfl) ⟨_, _, _, hW, by first | exact hG2 | exact GD_mono hG2 (by omega) (by omega) | exact GD_mono hG (by omega) (by omega), by omega⟩ hS dL_does_534
      · exfalso; omega
    by_cases k_29_10 : lowA v 18 = 10
    · refine x_tabIn (k := 10) (off := 506) (tgt := 535) hx hb dL_does_29 k_29_10 (by decide) (by decide) (by decide) rfl (by decide) ?_
      refine lv_iload_n hx hb dL_does_535 rfl (lv_at hl 3 rfl) ?_
      refine x_iconst hx hb dL_does_536 ?_
      refine lv_ishr hx hb dL_does_537 ?_
      refine lv_topi (fun v_ ev_ => ?_)
      obtain ⟨u6, hu6, rfl⟩ : ∃ z : Int, (-2147483648 ≤ z ∧ z < 2147483648) ∧ v_ = zI z := ⟨v_.toInt, zI_rng v_, (zI_of v_).symm⟩
      clear ev_
      refine x_bipush hx hb dL_does_538 (by decide +kernel) ?_
      refine x_callSR (As := [.int (zI u6), .int (zI 6)]) (rest := []) S hK (l_low l D cs u6 6 (by omega)) (va_cwS 2 hts gL_does_L_low rfl rfl rfl (by decide +kernel) ⟨(Nat.le_of_ble_eq_true rfl), (Nat.le_of_ble_eq_true rfl)⟩) trivial rfl hl.1 (Nat.le_of_ble_eq_true rfl) dL_does_540 ⟨Nat.zero_le _, Nat.zero_le _⟩ ?_
      have hsx := lowA_rng u6 (nn := 6) (by decide)
      refine lv_istore (lv' := [(15, .int (zI (lowA u6 6))), (4, .int (zI (lowA u1 (τ 7)))), (3, .int (zI (τ 7))), (0, .ref (a 0)), (1, .int (zI v)), (2, .int (zI w))]) hx hb dL_does_543 hl (by decide) rfl (fun ls hl => ?_)
      refine lv_iload hx hb dL_does_545 (lv_at hl 0 rfl) ?_
      refine x_iconst hx hb dL_does_547 ?_
      refine x_icmp_ne (tgt := 560) hx hb dL_does_548 (by decide) (by omega) (by omega) (fun c_548 => ?_) (fun c_548 => ?_)
      · refine lv_iload hx hb dL_does_560 (lv_at hl 0 rfl) ?_
        refine x_iconst hx hb dL_does_562 ?_
        refine x_icmp_ne (tgt := 574) hx hb dL_does_563 (by decide) (by omega) (by omega) (fun c_563 => ?_) (fun c_563 => ?_)
        · refine lv_iload hx hb dL_does_574 (lv_at hl 0 rfl) ?_
          refine x_iconst hx hb dL_does_576 ?_
          refine x_icmp_ne (tgt := 593) hx hb dL_does_577 (by decide) (by omega) (by omega) (fun c_577 => ?_) (fun c_577 => ?_)
          · refine lv_iload_n hx hb dL_does_593 rfl (lv_at hl 5 rfl) ?_
            refine x_bipush hx hb dL_does_594 (by decide +kernel) ?_
            refine x_callSR (As := [.int (zI w), .int (zI 100)]) (rest := []) S hK (l_low l D cs w 100 (by omega)) (va_cwS 2 hts gL_does_L_low rfl rfl rfl (by decide +kernel) ⟨(Nat.le_of_ble_eq_true rfl), (Nat.le_of_ble_eq_true rfl)⟩) trivial rfl hl.1 (Nat.le_of_ble_eq_true rfl) dL_does_596 ⟨Nat.zero_le _, Nat.zero_le _⟩ ?_
            refine lv_istore (lv' := [(16, .int (zI (lowA w 100))), (15, .int (zI (lowA u6 6))), (4, .int (zI (lowA u1 (τ 7)))), (3, .int (zI (τ 7))), (0, .ref (a 0)), (1, .int (zI v)), (2, .int (zI w))]) hx hb dL_does_599 hl (by decide) rfl (fun ls hl => ?_)
            have hs : setOK (lowA u6 6) (lowA w 100) := by have q1 := lowA_rng w (nn := 10) (by decide); have q2 := lowA_rng w (nn := 2) (by decide); have q3 := lowA_rng w (nn := 900) (by decide); have q4 := lowA_rng w (nn := 100) (by decide); exact set_ok (by omega) (by omega) (by omega) (by omega) (by omega)
            obtain ⟨hG2, ⟨e7, e6⟩, ev⟩ := st_all hG hs
            refine lv_aload_n hx hb dL_does_601 rfl (lv_at hl 4 rfl) ?_
            refine x_bipush hx hb dL_does_602 (by decide +kernel) ?_
            refine lv_iload hx hb dL_does_604 (lv_at hl 1 rfl) ?_
            refine x_iadd hx hb dL_does_606 ?_
            refine x_callVR (As := [.int (zI (9 + (lowA u6 6)))]) (rest := []) S hK (p_count_s l D cs a τ pd ln ((lowA u6 6)) (by first | exact hG | exact hG2) (by omega)) (cwV 1 hts gL_does_X6_count rfl rfl rfl (by decide +kernel) ⟨(Nat.le_of_ble_eq_true rfl), (Nat.le_of_ble_eq_true rfl)⟩) (PW_rc hK hW) hW rfl hl.1 (Nat.le_of_ble_eq_true rfl) dL_does_607 ⟨Nat.zero_le _, Nat.zero_le _⟩ ?_
            refine lv_istore (lv' := [(17, .int (zI (τ ((lowA u6 6))))), (16, .int (zI (lowA w 100))), (15, .int (zI (lowA u6 6))), (4, .int (zI (lowA u1 (τ 7)))), (3, .int (zI (τ 7))), (0, .ref (a 0)), (1, .int (zI v)), (2, .int (zI w))]) hx hb dL_does_610 hl (by decide) rfl (fun ls hl => ?_)
            refine lv_aload_n hx hb dL_does_612 rfl (lv_at hl 5 rfl) ?_
            refine lv_iload hx hb dL_does_613 (lv_at hl 2 rfl) ?_
            refine lv_iload hx hb dL_does_615 (lv_at hl 1 rfl) ?_
            refine x_callVMz (As := [.int (zI (lowA u6 6)), .int (zI (lowA w 100))]) (rest := []) S hK (kZ.keptS hZ hS hN) (p_set l D cs a τ pd ln (lowA u6 6) (lowA w 100) _ (by first | exact hG | exact hG2) (by exact hI) (by exact hs) (by exact hN)) (cwV 2 hts gL_does_X6_set rfl rfl rfl (by decide +kernel) ⟨(Nat.le_of_ble_eq_true rfl), (Nat.le_of_ble_eq_true rfl)⟩) (PW_rc hK hW) hW rfl hl.1 (Nat.le_of_ble_eq_true rfl) dL_does_617 ⟨Nat.zero_le _, Nat.zero_le _⟩ hS (fun q hq => hq) (fun H locs hB hF hS => ?_)
            have hW : PW D cs a (up τ (lowA u6 6) (lowA w 100)) pd ln H := hB
            refine lv_iload hx hb dL_does_620 (lv_at hl 0 rfl) ?_
            refine x_icmp_neE (tgt := 643) hx hb dL_does_622 (by decide) (by omega) ?_
            refine lv_aload_n hx hb dL_does_625 rfl (lv_at hl 5 rfl) ?_
            refine x_bipush hx hb dL_does_626 (by decide +kernel) ?_
            refine lv_iload hx hb dL_does_628 (lv_at hl 2 rfl) ?_
            refine x_iadd hx hb dL_does_630 ?_
            refine x_callVR (As := [.int (zI (9 + (lowA u6 6)))]) (rest := []) S hK (p_count_s l D cs a (up τ (lowA u6 6) (lowA w 100)) pd ln ((lowA u6 6)) (by first | exact hG | exact hG2) (by omega)) (cwV 1 hts gL_does_X6_count rfl rfl rfl (by decide +kernel) ⟨(Nat.le_of_ble_eq_true rfl), (Nat.le_of_ble_eq_true rfl)⟩) (PW_rc hK hW) hW rfl hl.1 (Nat.le_of_ble_eq_true rfl) dL_does_631 ⟨Nat.zero_le _, Nat.zero_le _⟩ ?_
            refine lv_iload hx hb dL_does_634 (lv_at hl 1 rfl) ?_
            refine x_icmp_neE (tgt := 643) hx hb dL_does_636 (by decide) (by exact ev) ?_
            refine x_iconst hx hb dL_does_639 ?_
            refine lv_goto (tgt := 644) hx hb dL_does_640 (by decide) ?_
            exact x_zretM hx hb hr hlocks (by first | rfl | omega) (by exact Or.inr rfl) ⟨_, _, _, hW, by first | exact hG2 | exact GD_mono hG2 (by omega) (by omega) | exact GD_mono hG (by omega) (by omega), by omega⟩ hS dL_does_644
          · refine x_bipush hx hb dL_does_580 (by decide +kernel) ?_
            refine lv_iload_n hx hb dL_does_582 rfl (lv_at hl 5 rfl) ?_
            refine x_sipush hx hb dL_does_583 (by decide +kernel) ?_
            refine x_callSR (As := [.int (zI w), .int (zI 900)]) (rest := [.int (zI 100)]) S hK (l_low l D cs w 900 (by omega)) (va_cwS 2 hts gL_does_L_low rfl rfl rfl (by decide +kernel) ⟨(Nat.le_of_ble_eq_true rfl), (Nat.le_of_ble_eq_true rfl)⟩) trivial rfl hl.1 (Nat.le_of_ble_eq_true rfl) dL_does_586 ⟨Nat.zero_le _, Nat.zero_le _⟩ ?_
            refine x_iadd hx hb dL_does_589 ?_
            refine lv_goto (tgt := 599) hx hb dL_does_590 (by decide) ?_
            refine lv_istore (lv' := [(16, .int (zI (100 + (lowA w 900)))), (15, .int (zI (lowA u6 6))), (4, .int (zI (lowA u1 (τ 7)))), (3, .int (zI (τ 7))), (0, .ref (a 0)), (1, .int (zI v)), (2, .int (zI w))]) hx hb dL_does_599 hl (by decide) rfl (fun ls hl => ?_)
            have hs : setOK (lowA u6 6) (100 + (lowA w 900)) := by have q1 := lowA_rng w (nn := 10) (by decide); have q2 := lowA_rng w (nn := 2) (by decide); have q3 := lowA_rng w (nn := 900) (by decide); have q4 := lowA_rng w (nn := 100) (by decide); exact set_ok (by omega) (by omega) (by omega) (by omega) (by omega)
            obtain ⟨hG2, ⟨e7, e6⟩, ev⟩ := st_all hG hs
            refine lv_aload_n hx hb dL_does_601 rfl (lv_at hl 4 rfl) ?_
            refine x_bipush hx hb dL_does_602 (by decide +kernel) ?_
            refine lv_iload hx hb dL_does_604 (lv_at hl 1 rfl) ?_
            refine x_iadd hx hb dL_does_606 ?_
            refine x_callVR (As := [.int (zI (9 + (lowA u6 6)))]) (rest := []) S hK (p_count_s l D cs a τ pd ln ((lowA u6 6)) (by first | exact hG | exact hG2) (by omega)) (cwV 1 hts gL_does_X6_count rfl rfl rfl (by decide +kernel) ⟨(Nat.le_of_ble_eq_true rfl), (Nat.le_of_ble_eq_true rfl)⟩) (PW_rc hK hW) hW rfl hl.1 (Nat.le_of_ble_eq_true rfl) dL_does_607 ⟨Nat.zero_le _, Nat.zero_le _⟩ ?_
            refine lv_istore (lv' := [(17, .int (zI (τ ((lowA u6 6))))), (16, .int (zI (100 + (lowA w 900)))), (15, .int (zI (lowA u6 6))), (4, .int (zI (lowA u1 (τ 7)))), (3, .int (zI (τ 7))), (0, .ref (a 0)), (1, .int (zI v)), (2, .int (zI w))]) hx hb dL_does_610 hl (by decide) rfl (fun ls hl => ?_)
            refine lv_aload_n hx hb dL_does_612 rfl (lv_at hl 5 rfl) ?_
            refine lv_iload hx hb dL_does_613 (lv_at hl 2 rfl) ?_
            refine lv_iload hx hb dL_does_615 (lv_at hl 1 rfl) ?_
            refine x_callVMz (As := [.int (zI (lowA u6 6)), .int (zI (100 + (lowA w 900)))]) (rest := []) S hK (kZ.keptS hZ hS hN) (p_set l D cs a τ pd ln (lowA u6 6) (100 + (lowA w 900)) _ (by first | exact hG | exact hG2) (by exact hI) (by exact hs) (by exact hN)) (cwV 2 hts gL_does_X6_set rfl rfl rfl (by decide +kernel) ⟨(Nat.le_of_ble_eq_true rfl), (Nat.le_of_ble_eq_true rfl)⟩) (PW_rc hK hW) hW rfl hl.1 (Nat.le_of_ble_eq_true rfl) dL_does_617 ⟨Nat.zero_le _, Nat.zero_le _⟩ hS (fun q hq => hq) (fun H locs hB hF hS => ?_)
            have hW : PW D cs a (up τ (lowA u6 6) (100 + (lowA w 900))) pd ln H := hB
            refine lv_iload hx hb dL_does_620 (lv_at hl 0 rfl) ?_
            refine x_icmp_neE (tgt := 643) hx hb dL_does_622 (by decide) (by omega) ?_
            refine lv_aload_n hx hb dL_does_625 rfl (lv_at hl 5 rfl) ?_
            refine x_bipush hx hb dL_does_626 (by decide +kernel) ?_
            refine lv_iload hx hb dL_does_628 (lv_at hl 2 rfl) ?_
            refine x_iadd hx hb dL_does_630 ?_
            refine x_callVR (As := [.int (zI (9 + (lowA u6 6)))]) (rest := []) S hK (p_count_s l D cs a (up τ (lowA u6 6) (100 + (lowA w 900))) pd ln ((lowA u6 6)) (by first | exact hG | exact hG2) (by omega)) (cwV 1 hts gL_does_X6_count rfl rfl rfl (by decide +kernel) ⟨(Nat.le_of_ble_eq_true rfl), (Nat.le_of_ble_eq_true rfl)⟩) (PW_rc hK hW) hW rfl hl.1 (Nat.le_of_ble_eq_true rfl) dL_does_631 ⟨Nat.zero_le _, Nat.zero_le _⟩ ?_
            refine lv_iload hx hb dL_does_634 (lv_at hl 1 rfl) ?_
            refine x_icmp_neE (tgt := 643) hx hb dL_does_636 (by decide) (by exact ev) ?_
            refine x_iconst hx hb dL_does_639 ?_
            refine lv_goto (tgt := 644) hx hb dL_does_640 (by decide) ?_
            exact x_zretM hx hb hr hlocks (by first | rfl | omega) (by exact Or.inr rfl) ⟨_, _, _, hW, by first | exact hG2 | exact GD_mono hG2 (by omega) (by omega) | exact GD_mono hG (by omega) (by omega), by omega⟩ hS dL_does_644
        · refine lv_iload_n hx hb dL_does_566 rfl (lv_at hl 5 rfl) ?_
          refine x_iconst hx hb dL_does_567 ?_
          refine x_callSR (As := [.int (zI w), .int (zI 2)]) (rest := []) S hK (l_low l D cs w 2 (by omega)) (va_cwS 2 hts gL_does_L_low rfl rfl rfl (by decide +kernel) ⟨(Nat.le_of_ble_eq_true rfl), (Nat.le_of_ble_eq_true rfl)⟩) trivial rfl hl.1 (Nat.le_of_ble_eq_true rfl) dL_does_568 ⟨Nat.zero_le _, Nat.zero_le _⟩ ?_
          refine lv_goto (tgt := 599) hx hb dL_does_571 (by decide) ?_
          refine lv_istore (lv' := [(16, .int (zI (lowA w 2))), (15, .int (zI (lowA u6 6))), (4, .int (zI (lowA u1 (τ 7)))), (3, .int (zI (τ 7))), (0, .ref (a 0)), (1, .int (zI v)), (2, .int (zI w))]) hx hb dL_does_599 hl (by decide) rfl (fun ls hl => ?_)
          have hs : setOK (lowA u6 6) (lowA w 2) := by have q1 := lowA_rng w (nn := 10) (by decide); have q2 := lowA_rng w (nn := 2) (by decide); have q3 := lowA_rng w (nn := 900) (by decide); have q4 := lowA_rng w (nn := 100) (by decide); exact set_ok (by omega) (by omega) (by omega) (by omega) (by omega)
          obtain ⟨hG2, ⟨e7, e6⟩, ev⟩ := st_all hG hs
          refine lv_aload_n hx hb dL_does_601 rfl (lv_at hl 4 rfl) ?_
          refine x_bipush hx hb dL_does_602 (by decide +kernel) ?_
          refine lv_iload hx hb dL_does_604 (lv_at hl 1 rfl) ?_
          refine x_iadd hx hb dL_does_606 ?_
          refine x_callVR (As := [.int (zI (9 + (lowA u6 6)))]) (rest := []) S hK (p_count_s l D cs a τ pd ln ((lowA u6 6)) (by first | exact hG | exact hG2) (by omega)) (cwV 1 hts gL_does_X6_count rfl rfl rfl (by decide +kernel) ⟨(Nat.le_of_ble_eq_true rfl), (Nat.le_of_ble_eq_true rfl)⟩) (PW_rc hK hW) hW rfl hl.1 (Nat.le_of_ble_eq_true rfl) dL_does_607 ⟨Nat.zero_le _, Nat.zero_le _⟩ ?_
          refine lv_istore (lv' := [(17, .int (zI (τ ((lowA u6 6))))), (16, .int (zI (lowA w 2))), (15, .int (zI (lowA u6 6))), (4, .int (zI (lowA u1 (τ 7)))), (3, .int (zI (τ 7))), (0, .ref (a 0)), (1, .int (zI v)), (2, .int (zI w))]) hx hb dL_does_610 hl (by decide) rfl (fun ls hl => ?_)
          refine lv_aload_n hx hb dL_does_612 rfl (lv_at hl 5 rfl) ?_
          refine lv_iload hx hb dL_does_613 (lv_at hl 2 rfl) ?_
          refine lv_iload hx hb dL_does_615 (lv_at hl 1 rfl) ?_
          refine x_callVMz (As := [.int (zI (lowA u6 6)), .int (zI (lowA w 2))]) (rest := []) S hK (kZ.keptS hZ hS hN) (p_set l D cs a τ pd ln (lowA u6 6) (lowA w 2) _ (by first | exact hG | exact hG2) (by exact hI) (by exact hs) (by exact hN)) (cwV 2 hts gL_does_X6_set rfl rfl rfl (by decide +kernel) ⟨(Nat.le_of_ble_eq_true rfl), (Nat.le_of_ble_eq_true rfl)⟩) (PW_rc hK hW) hW rfl hl.1 (Nat.le_of_ble_eq_true rfl) dL_does_617 ⟨Nat.zero_le _, Nat.zero_le _⟩ hS (fun q hq => hq) (fun H locs hB hF hS => ?_)
          have hW : PW D cs a (up τ (lowA u6 6) (lowA w 2)) pd ln H := hB
          refine lv_iload hx hb dL_does_620 (lv_at hl 0 rfl) ?_
          refine x_icmp_neE (tgt := 643) hx hb dL_does_622 (by decide) (by omega) ?_
          refine lv_aload_n hx hb dL_does_625 rfl (lv_at hl 5 rfl) ?_
          refine x_bipush hx hb dL_does_626 (by decide +kernel) ?_
          refine lv_iload hx hb dL_does_628 (lv_at hl 2 rfl) ?_
          refine x_iadd hx hb dL_does_630 ?_
          refine x_callVR (As := [.int (zI (9 + (lowA u6 6)))]) (rest := []) S hK (p_count_s l D cs a (up τ (lowA u6 6) (lowA w 2)) pd ln ((lowA u6 6)) (by first | exact hG | exact hG2) (by omega)) (cwV 1 hts gL_does_X6_count rfl rfl rfl (by decide +kernel) ⟨(Nat.le_of_ble_eq_true rfl), (Nat.le_of_ble_eq_true rfl)⟩) (PW_rc hK hW) hW rfl hl.1 (Nat.le_of_ble_eq_true rfl) dL_does_631 ⟨Nat.zero_le _, Nat.zero_le _⟩ ?_
          refine lv_iload hx hb dL_does_634 (lv_at hl 1 rfl) ?_
          refine x_icmp_neE (tgt := 643) hx hb dL_does_636 (by decide) (by exact ev) ?_
          refine x_iconst hx hb dL_does_639 ?_
          refine lv_goto (tgt := 644) hx hb dL_does_640 (by decide) ?_
          exact x_zretM hx hb hr hlocks (by first | rfl | omega) (by exact Or.inr rfl) ⟨_, _, _, hW, by first | exact hG2 | exact GD_mono hG2 (by omega) (by omega) | exact GD_mono hG (by omega) (by omega), by omega⟩ hS dL_does_644
      · refine lv_iload_n hx hb dL_does_551 rfl (lv_at hl 5 rfl) ?_
        refine x_bipush hx hb dL_does_552 (by decide +kernel) ?_
        refine x_callSR (As := [.int (zI w), .int (zI 10)]) (rest := []) S hK (l_low l D cs w 10 (by omega)) (va_cwS 2 hts gL_does_L_low rfl rfl rfl (by decide +kernel) ⟨(Nat.le_of_ble_eq_true rfl), (Nat.le_of_ble_eq_true rfl)⟩) trivial rfl hl.1 (Nat.le_of_ble_eq_true rfl) dL_does_554 ⟨Nat.zero_le _, Nat.zero_le _⟩ ?_
        refine lv_goto (tgt := 599) hx hb dL_does_557 (by decide) ?_
        refine lv_istore (lv' := [(16, .int (zI (lowA w 10))), (15, .int (zI (lowA u6 6))), (4, .int (zI (lowA u1 (τ 7)))), (3, .int (zI (τ 7))), (0, .ref (a 0)), (1, .int (zI v)), (2, .int (zI w))]) hx hb dL_does_599 hl (by decide) rfl (fun ls hl => ?_)
        have hs : setOK (lowA u6 6) (lowA w 10) := by have q1 := lowA_rng w (nn := 10) (by decide); have q2 := lowA_rng w (nn := 2) (by decide); have q3 := lowA_rng w (nn := 900) (by decide); have q4 := lowA_rng w (nn := 100) (by decide); exact set_ok (by omega) (by omega) (by omega) (by omega) (by omega)
        obtain ⟨hG2, ⟨e7, e6⟩, ev⟩ := st_all hG hs
        refine lv_aload_n hx hb dL_does_601 rfl (lv_at hl 4 rfl) ?_
        refine x_bipush hx hb dL_does_602 (by decide +kernel) ?_
        refine lv_iload hx hb dL_does_604 (lv_at hl 1 rfl) ?_
        refine x_iadd hx hb dL_does_606 ?_
        refine x_callVR (As := [.int (zI (9 + (lowA u6 6)))]) (rest := []) S hK (p_count_s l D cs a τ pd ln ((lowA u6 6)) (by first | exact hG | exact hG2) (by omega)) (cwV 1 hts gL_does_X6_count rfl rfl rfl (by decide +kernel) ⟨(Nat.le_of_ble_eq_true rfl), (Nat.le_of_ble_eq_true rfl)⟩) (PW_rc hK hW) hW rfl hl.1 (Nat.le_of_ble_eq_true rfl) dL_does_607 ⟨Nat.zero_le _, Nat.zero_le _⟩ ?_
        refine lv_istore (lv' := [(17, .int (zI (τ ((lowA u6 6))))), (16, .int (zI (lowA w 10))), (15, .int (zI (lowA u6 6))), (4, .int (zI (lowA u1 (τ 7)))), (3, .int (zI (τ 7))), (0, .ref (a 0)), (1, .int (zI v)), (2, .int (zI w))]) hx hb dL_does_610 hl (by decide) rfl (fun ls hl => ?_)
        refine lv_aload_n hx hb dL_does_612 rfl (lv_at hl 5 rfl) ?_
        refine lv_iload hx hb dL_does_613 (lv_at hl 2 rfl) ?_
        refine lv_iload hx hb dL_does_615 (lv_at hl 1 rfl) ?_
        refine x_callVMz (As := [.int (zI (lowA u6 6)), .int (zI (lowA w 10))]) (rest := []) S hK (kZ.keptS hZ hS hN) (p_set l D cs a τ pd ln (lowA u6 6) (lowA w 10) _ (by first | exact hG | exact hG2) (by exact hI) (by exact hs) (by exact hN)) (cwV 2 hts gL_does_X6_set rfl rfl rfl (by decide +kernel) ⟨(Nat.le_of_ble_eq_true rfl), (Nat.le_of_ble_eq_true rfl)⟩) (PW_rc hK hW) hW rfl hl.1 (Nat.le_of_ble_eq_true rfl) dL_does_617 ⟨Nat.zero_le _, Nat.zero_le _⟩ hS (fun q hq => hq) (fun H locs hB hF hS => ?_)
        have hW : PW D cs a (up τ (lowA u6 6) (lowA w 10)) pd ln H := hB
        refine lv_iload hx hb dL_does_620 (lv_at hl 0 rfl) ?_
        refine x_icmp_neE (tgt := 643) hx hb dL_does_622 (by decide) (by omega) ?_
        refine lv_aload_n hx hb dL_does_625 rfl (lv_at hl 5 rfl) ?_
        refine x_bipush hx hb dL_does_626 (by decide +kernel) ?_
        refine lv_iload hx hb dL_does_628 (lv_at hl 2 rfl) ?_
        refine x_iadd hx hb dL_does_630 ?_
        refine x_callVR (As := [.int (zI (9 + (lowA u6 6)))]) (rest := []) S hK (p_count_s l D cs a (up τ (lowA u6 6) (lowA w 10)) pd ln ((lowA u6 6)) (by first | exact hG | exact hG2) (by omega)) (cwV 1 hts gL_does_X6_count rfl rfl rfl (by decide +kernel) ⟨(Nat.le_of_ble_eq_true rfl), (Nat.le_of_ble_eq_true rfl)⟩) (PW_rc hK hW) hW rfl hl.1 (Nat.le_of_ble_eq_true rfl) dL_does_631 ⟨Nat.zero_le _, Nat.zero_le _⟩ ?_
        refine lv_iload hx hb dL_does_634 (lv_at hl 1 rfl) ?_
        refine x_icmp_neE (tgt := 643) hx hb dL_does_636 (by decide) (by exact ev) ?_
        refine x_iconst hx hb dL_does_639 ?_
        refine lv_goto (tgt := 644) hx hb dL_does_640 (by decide) ?_
        exact x_zretM hx hb hr hlocks (by first | rfl | omega) (by exact Or.inr rfl) ⟨_, _, _, hW, by first | exact hG2 | exact GD_mono hG2 (by omega) (by omega) | exact GD_mono hG (by omega) (by omega), by omega⟩ hS dL_does_644
    by_cases k_29_11 : lowA v 18 = 11
    · refine x_tabIn (k := 11) (off := 616) (tgt := 645) hx hb dL_does_29 k_29_11 (by decide) (by decide) (by decide) rfl (by decide) ?_
      refine lv_iload_n hx hb dL_does_645 rfl (lv_at hl 1 rfl) ?_
      refine x_if_ne (tgt := 666) hx hb dL_does_646 (by decide) (by omega) (fun c_646 => ?_) (fun c_646 => ?_)
      · have hk : 0 ≤ (lowA u1 (τ 7)) ∧ (lowA u1 (τ 7)) < τ 7 := by omega
        refine lv_aload_n hx hb dL_does_666 rfl (lv_at hl 2 rfl) ?_
        refine lv_iload hx hb dL_does_667 (lv_at hl 0 rfl) ?_
        refine x_callSM (As := [.ref (a 0), .int (zI (lowA u1 (τ 7)))]) (rest := []) S hK (l_isWritten l D cs a τ pd ln (lowA u1 (τ 7)) _ (by first | exact hG | exact hG2) (by exact hI) (by first | exact hk | omega)) (va_cwS 2 hts gL_does_L_isWritten rfl rfl rfl (by decide +kernel) ⟨(Nat.le_of_ble_eq_true rfl), (Nat.le_of_ble_eq_true rfl)⟩) hW rfl hl.1 (Nat.le_of_ble_eq_true rfl) dL_does_669 ⟨Nat.zero_le _, Nat.zero_le _⟩ hS (fun q hq => hq) (fun H locs hB hF hS => ?_)
        have hW : PW D cs a τ (wrD τ pd (lowA u1 (τ 7))) 0 H := hB
        exact x_zretM hx hb hr hlocks (by first | rfl | omega) (by exact Or.inr rfl) ⟨_, _, _, hW, by first | exact hG2 | exact GD_mono hG2 (by omega) (by omega) | exact GD_mono hG (by omega) (by omega), by omega⟩ hS dL_does_672
      · exfalso; omega
    refine x_tabOut (tgt := 673) hx hb dL_does_29 (by omega) (by omega) (by decide) ?_
    refine lv_aload_n hx hb dL_does_673 rfl (lv_at hl 2 rfl) ?_
    refine x_iconst hx hb dL_does_674 ?_
    refine lv_iload_n hx hb dL_does_675 rfl (lv_at hl 4 rfl) ?_
    refine lv_iload_n hx hb dL_does_676 rfl (lv_at hl 3 rfl) ?_
    refine x_bipush hx hb dL_does_677 (by decide +kernel) ?_
    refine lv_ishr hx hb dL_does_679 ?_
    refine lv_topi (fun v_ ev_ => ?_)
    obtain ⟨u7, hu7, rfl⟩ : ∃ z : Int, (-2147483648 ≤ z ∧ z < 2147483648) ∧ v_ = zI z := ⟨v_.toInt, zI_rng v_, (zI_of v_).symm⟩
    clear ev_
    refine x_iconst hx hb dL_does_680 ?_
    refine lv_iand hx hb dL_does_681 ?_
    refine lv_topi (fun v_ ev_ => ?_)
    obtain ⟨u8, hu8, rfl⟩ : ∃ z : Int, (-2147483648 ≤ z ∧ z < 2147483648) ∧ v_ = zI z := ⟨v_.toInt, zI_rng v_, (zI_of v_).symm⟩
    clear ev_
    refine x_if_ne (tgt := 691) hx hb dL_does_682 (by decide) (by omega) (fun c_682 => ?_) (fun c_682 => ?_)
    · refine x_bipush hx hb dL_does_691 (by decide +kernel) ?_
      refine x_callSR (As := [.int (zI w), .int (zI 20)]) (rest := [.int (zI 1), .ref (a 0)]) S hK (l_low l D cs w 20 (by omega)) (va_cwS 2 hts gL_does_L_low rfl rfl rfl (by decide +kernel) ⟨(Nat.le_of_ble_eq_true rfl), (Nat.le_of_ble_eq_true rfl)⟩) trivial rfl hl.1 (Nat.le_of_ble_eq_true rfl) dL_does_693 ⟨Nat.zero_le _, Nat.zero_le _⟩ ?_
      refine x_iadd hx hb dL_does_696 ?_
      have hmi : 1 ≤ 1 + (lowA w 20) ∧ 1 + (lowA w 20) ≤ 700 := by have q1 := lowA_rng w (nn := 700) (by decide); have q2 := lowA_rng w (nn := 20) (by decide); omega
      have hw0 := wnP_e (τ := τ) (w := 1 + (lowA w 20)) (by omega) (by omega)
      obtain ⟨hG2, e6, -⟩ := ps_el hG hw0
      refine lv_iload hx hb dL_does_697 (lv_at hl 0 rfl) ?_
      refine x_callSM (As := [.ref (a 0), .int (zI (1 + (lowA w 20))), .int (zI (lowA u1 (τ 7)))]) (rest := []) S hK (l_passes l D cs a τ pd ln (1 + (lowA w 20)) (lowA u1 (τ 7)) _ (by first | exact hG | exact hG2) (by exact hI) (by first | exact hw0 | omega) (by omega) (by omega)) (va_cwS 3 hts gL_does_L_passes rfl rfl rfl (by decide +kernel) ⟨(Nat.le_of_ble_eq_true rfl), (Nat.le_of_ble_eq_true rfl)⟩) hW rfl hl.1 (Nat.le_of_ble_eq_true rfl) dL_does_699 ⟨Nat.zero_le _, Nat.zero_le _⟩ hS (fun q hq => hq) (fun H locs hB hF hS => ?_)
      have hW : PW D cs a (elF τ (1 + (lowA w 20))) pd ln H := hB
      exact x_zretM hx hb hr hlocks (by first | rfl | omega) (by exact Or.inr rfl) ⟨_, _, _, hW, by first | exact hG2 | exact GD_mono hG2 (by omega) (by omega) | exact GD_mono hG (by omega) (by omega), by omega⟩ hS dL_does_702
    · refine x_sipush hx hb dL_does_685 (by decide +kernel) ?_
      refine lv_goto (tgt := 693) hx hb dL_does_688 (by decide) ?_
      refine x_callSR (As := [.int (zI w), .int (zI 700)]) (rest := [.int (zI 1), .ref (a 0)]) S hK (l_low l D cs w 700 (by omega)) (va_cwS 2 hts gL_does_L_low rfl rfl rfl (by decide +kernel) ⟨(Nat.le_of_ble_eq_true rfl), (Nat.le_of_ble_eq_true rfl)⟩) trivial rfl hl.1 (Nat.le_of_ble_eq_true rfl) dL_does_693 ⟨Nat.zero_le _, Nat.zero_le _⟩ ?_
      refine x_iadd hx hb dL_does_696 ?_
      have hmi : 1 ≤ 1 + (lowA w 700) ∧ 1 + (lowA w 700) ≤ 700 := by have q1 := lowA_rng w (nn := 700) (by decide); have q2 := lowA_rng w (nn := 20) (by decide); omega
      have hw0 := wnP_e (τ := τ) (w := 1 + (lowA w 700)) (by omega) (by omega)
      obtain ⟨hG2, e6, -⟩ := ps_el hG hw0
      refine lv_iload hx hb dL_does_697 (lv_at hl 0 rfl) ?_
      refine x_callSM (As := [.ref (a 0), .int (zI (1 + (lowA w 700))), .int (zI (lowA u1 (τ 7)))]) (rest := []) S hK (l_passes l D cs a τ pd ln (1 + (lowA w 700)) (lowA u1 (τ 7)) _ (by first | exact hG | exact hG2) (by exact hI) (by first | exact hw0 | omega) (by omega) (by omega)) (va_cwS 3 hts gL_does_L_passes rfl rfl rfl (by decide +kernel) ⟨(Nat.le_of_ble_eq_true rfl), (Nat.le_of_ble_eq_true rfl)⟩) hW rfl hl.1 (Nat.le_of_ble_eq_true rfl) dL_does_699 ⟨Nat.zero_le _, Nat.zero_le _⟩ hS (fun q hq => hq) (fun H locs hB hF hS => ?_)
      have hW : PW D cs a (elF τ (1 + (lowA w 700))) pd ln H := hB
      exact x_zretM hx hb hr hlocks (by first | rfl | omega) (by exact Or.inr rfl) ⟨_, _, _, hW, by first | exact hG2 | exact GD_mono hG2 (by omega) (by omega) | exact GD_mono hG (by omega) (by omega), by omega⟩ hS dL_does_702
  · refine x_iconst hx hb dL_does_10 ?_
    refine lv_goto (tgt := 21) hx hb dL_does_11 (by decide) ?_
    have hme : (τ 7 = 0 ∧ (0 : Int) = 0) ∨ (0 ≤ (0 : Int) ∧ (0 : Int) < τ 7) := Or.inl ⟨c_7, rfl⟩
    refine lv_istore (lv' := [(4, .int (zI 0)), (3, .int (zI (τ 7))), (0, .ref (a 0)), (1, .int (zI v)), (2, .int (zI w))]) hx hb dL_does_21 hl (by decide) rfl (fun ls hl => ?_)
    refine lv_iload_n hx hb dL_does_23 rfl (lv_at hl 3 rfl) ?_
    refine x_bipush hx hb dL_does_24 (by decide +kernel) ?_
    refine x_callSR (As := [.int (zI v), .int (zI 18)]) (rest := []) S hK (l_low l D cs v 18 (by omega)) (va_cwS 2 hts gL_does_L_low rfl rfl rfl (by decide +kernel) ⟨(Nat.le_of_ble_eq_true rfl), (Nat.le_of_ble_eq_true rfl)⟩) trivial rfl hl.1 (Nat.le_of_ble_eq_true rfl) dL_does_26 ⟨Nat.zero_le _, Nat.zero_le _⟩ ?_
    have hlw := lowA_rng v (nn := 18) (by decide)
    by_cases k_29_0 : lowA v 18 = 0
    · refine x_tabIn (k := 0) (off := 63) (tgt := 92) hx hb dL_does_29 k_29_0 (by decide) (by decide) (by decide) rfl (by decide) ?_
      have hwe := wnM_e (k := 0) h7 (by omega)
      refine lv_aload_n hx hb dL_does_92 rfl (lv_at hl 2 rfl) ?_
      refine x_bipush hx hb dL_does_93 (by decide +kernel) ?_
      refine x_callVR (As := [.int (zI 8)]) (rest := []) S hK (p_count_8 l D cs a τ pd ln (by first | exact hG | exact hG2)) (cwV 1 hts gL_does_X6_count rfl rfl rfl (by decide +kernel) ⟨(Nat.le_of_ble_eq_true rfl), (Nat.le_of_ble_eq_true rfl)⟩) (PW_rc hK hW) hW rfl hl.1 (Nat.le_of_ble_eq_true rfl) dL_does_95 ⟨Nat.zero_le _, Nat.zero_le _⟩ ?_
      refine lv_istore (lv' := [(5, .int (zI (τ 10))), (4, .int (zI 0)), (3, .int (zI (τ 7))), (0, .ref (a 0)), (1, .int (zI v)), (2, .int (zI w))]) hx hb dL_does_98 hl (by decide) rfl (fun ls hl => ?_)
      refine lv_aload_n hx hb dL_does_100 rfl (lv_at hl 3 rfl) ?_
      refine lv_iload hx hb dL_does_101 (lv_at hl 1 rfl) ?_
      by_cases z_103 : τ 7 = 7
      · exfalso; omega
      · obtain ⟨hG2, ⟨e7, e6⟩, e0, es, ev⟩ := mt_all hG hN9 (k := 0) (by omega)
        have e00 : τ 7 = 0 → amF τ 0 (11 + 13 * τ 7 + 0) = -6 := fun q => by rw [e0, if_pos q]
        have e01 : ¬ τ 7 = 0 → amF τ 0 (11 + 13 * τ 7 + 0) = 0 := fun q => by rw [e0, if_neg q]
        refine x_callVM (As := [.int (zI 0)]) (rest := []) S hK (p_meter l D cs a τ pd ln 0 (by first | exact hG | exact hG2) (by exact hI) (by first | exact hk | omega) (by omega)) (cwV 1 hts gL_does_X6_meter rfl rfl rfl (by decide +kernel) ⟨(Nat.le_of_ble_eq_true rfl), (Nat.le_of_ble_eq_true rfl)⟩) (PW_rc hK hW) hW rfl hl.1 (Nat.le_of_ble_eq_true rfl) dL_does_103 ⟨Nat.zero_le _, Nat.zero_le _⟩ hS (fun q hq => hq) (fun H locs hB hF hS => ?_)
        have hW : PW D cs a (amF τ 0) pd ln H := hB
        refine lv_istore (lv' := [(6, .int (zI (τ 7))), (5, .int (zI (τ 10))), (4, .int (zI 0)), (3, .int (zI (τ 7))), (0, .ref (a 0)), (1, .int (zI v)), (2, .int (zI w))]) hx hb dL_does_106 hl (by decide) rfl (fun ls hl => ?_)
        refine lv_iload_n hx hb dL_does_108 rfl (lv_at hl 3 rfl) ?_
        refine x_bipush hx hb dL_does_109 (by decide +kernel) ?_
        refine x_icmp_ne (tgt := 129) hx hb dL_does_111 (by decide) (by omega) (by omega) (fun c_111 => ?_) (fun c_111 => ?_)
        · refine lv_iload hx hb dL_does_129 (lv_at hl 0 rfl) ?_
          refine lv_iload_n hx hb dL_does_131 rfl (lv_at hl 3 rfl) ?_
          refine x_icmp_neE (tgt := 184) hx hb dL_does_132 (by decide) (by omega) ?_
          refine lv_aload_n hx hb dL_does_135 rfl (lv_at hl 4 rfl) ?_
          refine lv_iload_n hx hb dL_does_136 rfl (lv_at hl 3 rfl) ?_
          refine x_iconst hx hb dL_does_137 ?_
          refine x_callVR (As := [.int (zI (τ 7)), .int (zI 0)]) (rest := []) S hK (p_of_0 l D cs a (amF τ 0) pd ln (τ 7) (by first | exact hG | exact hG2) (by first | exact hk | omega)) (cwV 2 hts gL_does_X6_of rfl rfl rfl (by decide +kernel) ⟨(Nat.le_of_ble_eq_true rfl), (Nat.le_of_ble_eq_true rfl)⟩) (PW_rc hK hW) hW rfl hl.1 (Nat.le_of_ble_eq_true rfl) dL_does_138 ⟨Nat.zero_le _, Nat.zero_le _⟩ ?_
          refine lv_iload_n hx hb dL_does_141 rfl (lv_at hl 3 rfl) ?_
          refine x_if_ne (tgt := 150) hx hb dL_does_142 (by decide) (by omega) (fun c_142 => ?_) (fun c_142 => ?_)
          · exfalso; omega
          · refine x_bipush hx hb dL_does_145 (by decide +kernel) ?_
            refine lv_goto (tgt := 152) hx hb dL_does_147 (by decide) ?_
            refine x_icmp_neE (tgt := 184) hx hb dL_does_152 (by decide) (by omega) ?_
            refine lv_aload_n hx hb dL_does_155 rfl (lv_at hl 4 rfl) ?_
            refine lv_iload_n hx hb dL_does_156 rfl (lv_at hl 3 rfl) ?_
            refine x_bipush hx hb dL_does_157 (by decide +kernel) ?_
            refine x_callVR (As := [.int (zI (τ 7)), .int (zI 7)]) (rest := []) S hK (p_of_7 l D cs a (amF τ 0) pd ln (τ 7) (by first | exact hG | exact hG2) (by first | exact hk | omega)) (cwV 2 hts gL_does_X6_of rfl rfl rfl (by decide +kernel) ⟨(Nat.le_of_ble_eq_true rfl), (Nat.le_of_ble_eq_true rfl)⟩) (PW_rc hK hW) hW rfl hl.1 (Nat.le_of_ble_eq_true rfl) dL_does_159 ⟨Nat.zero_le _, Nat.zero_le _⟩ ?_
            refine lv_iload hx hb dL_does_162 (lv_at hl 1 rfl) ?_
            refine x_iconst hx hb dL_does_164 ?_
            refine x_iadd hx hb dL_does_165 ?_
            refine x_icmp_neE (tgt := 184) hx hb dL_does_166 (by decide) (by omega) ?_
            refine lv_aload_n hx hb dL_does_169 rfl (lv_at hl 4 rfl) ?_
            refine lv_iload_n hx hb dL_does_170 rfl (lv_at hl 3 rfl) ?_
            refine x_iconst hx hb dL_does_171 ?_
            refine x_callVR (As := [.int (zI (τ 7)), .int (zI 3)]) (rest := []) S hK (p_of_3 l D cs a (amF τ 0) pd ln (τ 7) (by first | exact hG | exact hG2) (by first | exact hk | omega)) (cwV 2 hts gL_does_X6_of rfl rfl rfl (by decide +kernel) ⟨(Nat.le_of_ble_eq_true rfl), (Nat.le_of_ble_eq_true rfl)⟩) (PW_rc hK hW) hW rfl hl.1 (Nat.le_of_ble_eq_true rfl) dL_does_172 ⟨Nat.zero_le _, Nat.zero_le _⟩ ?_
            refine x_bipush hx hb dL_does_175 (by decide +kernel) ?_
            refine x_icmp_neE (tgt := 184) hx hb dL_does_177 (by decide) (by omega) ?_
            refine x_iconst hx hb dL_does_180 ?_
            refine lv_goto (tgt := 185) hx hb dL_does_181 (by decide) ?_
            exact x_zretM hx hb hr hlocks (by first | rfl | omega) (by exact Or.inr rfl) ⟨_, _, _, hW, by first | exact hG2 | exact GD_mono hG2 (by omega) (by omega) | exact GD_mono hG (by omega) (by omega), by omega⟩ hS dL_does_185
        · exfalso; omega
    by_cases k_29_1 : lowA v 18 = 1
    · refine x_tabIn (k := 1) (off := 63) (tgt := 92) hx hb dL_does_29 k_29_1 (by decide) (by decide) (by decide) rfl (by decide) ?_
      have hwe := wnM_e (k := 0) h7 (by omega)
      refine lv_aload_n hx hb dL_does_92 rfl (lv_at hl 2 rfl) ?_
      refine x_bipush hx hb dL_does_93 (by decide +kernel) ?_
      refine x_callVR (As := [.int (zI 8)]) (rest := []) S hK (p_count_8 l D cs a τ pd ln (by first | exact hG | exact hG2)) (cwV 1 hts gL_does_X6_count rfl rfl rfl (by decide +kernel) ⟨(Nat.le_of_ble_eq_true rfl), (Nat.le_of_ble_eq_true rfl)⟩) (PW_rc hK hW) hW rfl hl.1 (Nat.le_of_ble_eq_true rfl) dL_does_95 ⟨Nat.zero_le _, Nat.zero_le _⟩ ?_
      refine lv_istore (lv' := [(5, .int (zI (τ 10))), (4, .int (zI 0)), (3, .int (zI (τ 7))), (0, .ref (a 0)), (1, .int (zI v)), (2, .int (zI w))]) hx hb dL_does_98 hl (by decide) rfl (fun ls hl => ?_)
      refine lv_aload_n hx hb dL_does_100 rfl (lv_at hl 3 rfl) ?_
      refine lv_iload hx hb dL_does_101 (lv_at hl 1 rfl) ?_
      by_cases z_103 : τ 7 = 7
      · exfalso; omega
      · obtain ⟨hG2, ⟨e7, e6⟩, e0, es, ev⟩ := mt_all hG hN9 (k := 0) (by omega)
        have e00 : τ 7 = 0 → amF τ 0 (11 + 13 * τ 7 + 0) = -6 := fun q => by rw [e0, if_pos q]
        have e01 : ¬ τ 7 = 0 → amF τ 0 (11 + 13 * τ 7 + 0) = 0 := fun q => by rw [e0, if_neg q]
        refine x_callVM (As := [.int (zI 0)]) (rest := []) S hK (p_meter l D cs a τ pd ln 0 (by first | exact hG | exact hG2) (by exact hI) (by first | exact hk | omega) (by omega)) (cwV 1 hts gL_does_X6_meter rfl rfl rfl (by decide +kernel) ⟨(Nat.le_of_ble_eq_true rfl), (Nat.le_of_ble_eq_true rfl)⟩) (PW_rc hK hW) hW rfl hl.1 (Nat.le_of_ble_eq_true rfl) dL_does_103 ⟨Nat.zero_le _, Nat.zero_le _⟩ hS (fun q hq => hq) (fun H locs hB hF hS => ?_)
        have hW : PW D cs a (amF τ 0) pd ln H := hB
        refine lv_istore (lv' := [(6, .int (zI (τ 7))), (5, .int (zI (τ 10))), (4, .int (zI 0)), (3, .int (zI (τ 7))), (0, .ref (a 0)), (1, .int (zI v)), (2, .int (zI w))]) hx hb dL_does_106 hl (by decide) rfl (fun ls hl => ?_)
        refine lv_iload_n hx hb dL_does_108 rfl (lv_at hl 3 rfl) ?_
        refine x_bipush hx hb dL_does_109 (by decide +kernel) ?_
        refine x_icmp_ne (tgt := 129) hx hb dL_does_111 (by decide) (by omega) (by omega) (fun c_111 => ?_) (fun c_111 => ?_)
        · refine lv_iload hx hb dL_does_129 (lv_at hl 0 rfl) ?_
          refine lv_iload_n hx hb dL_does_131 rfl (lv_at hl 3 rfl) ?_
          refine x_icmp_neE (tgt := 184) hx hb dL_does_132 (by decide) (by omega) ?_
          refine lv_aload_n hx hb dL_does_135 rfl (lv_at hl 4 rfl) ?_
          refine lv_iload_n hx hb dL_does_136 rfl (lv_at hl 3 rfl) ?_
          refine x_iconst hx hb dL_does_137 ?_
          refine x_callVR (As := [.int (zI (τ 7)), .int (zI 0)]) (rest := []) S hK (p_of_0 l D cs a (amF τ 0) pd ln (τ 7) (by first | exact hG | exact hG2) (by first | exact hk | omega)) (cwV 2 hts gL_does_X6_of rfl rfl rfl (by decide +kernel) ⟨(Nat.le_of_ble_eq_true rfl), (Nat.le_of_ble_eq_true rfl)⟩) (PW_rc hK hW) hW rfl hl.1 (Nat.le_of_ble_eq_true rfl) dL_does_138 ⟨Nat.zero_le _, Nat.zero_le _⟩ ?_
          refine lv_iload_n hx hb dL_does_141 rfl (lv_at hl 3 rfl) ?_
          refine x_if_ne (tgt := 150) hx hb dL_does_142 (by decide) (by omega) (fun c_142 => ?_) (fun c_142 => ?_)
          · exfalso; omega
          · refine x_bipush hx hb dL_does_145 (by decide +kernel) ?_
            refine lv_goto (tgt := 152) hx hb dL_does_147 (by decide) ?_
            refine x_icmp_neE (tgt := 184) hx hb dL_does_152 (by decide) (by omega) ?_
            refine lv_aload_n hx hb dL_does_155 rfl (lv_at hl 4 rfl) ?_
            refine lv_iload_n hx hb dL_does_156 rfl (lv_at hl 3 rfl) ?_
            refine x_bipush hx hb dL_does_157 (by decide +kernel) ?_
            refine x_callVR (As := [.int (zI (τ 7)), .int (zI 7)]) (rest := []) S hK (p_of_7 l D cs a (amF τ 0) pd ln (τ 7) (by first | exact hG | exact hG2) (by first | exact hk | omega)) (cwV 2 hts gL_does_X6_of rfl rfl rfl (by decide +kernel) ⟨(Nat.le_of_ble_eq_true rfl), (Nat.le_of_ble_eq_true rfl)⟩) (PW_rc hK hW) hW rfl hl.1 (Nat.le_of_ble_eq_true rfl) dL_does_159 ⟨Nat.zero_le _, Nat.zero_le _⟩ ?_
            refine lv_iload hx hb dL_does_162 (lv_at hl 1 rfl) ?_
            refine x_iconst hx hb dL_does_164 ?_
            refine x_iadd hx hb dL_does_165 ?_
            refine x_icmp_neE (tgt := 184) hx hb dL_does_166 (by decide) (by omega) ?_
            refine lv_aload_n hx hb dL_does_169 rfl (lv_at hl 4 rfl) ?_
            refine lv_iload_n hx hb dL_does_170 rfl (lv_at hl 3 rfl) ?_
            refine x_iconst hx hb dL_does_171 ?_
            refine x_callVR (As := [.int (zI (τ 7)), .int (zI 3)]) (rest := []) S hK (p_of_3 l D cs a (amF τ 0) pd ln (τ 7) (by first | exact hG | exact hG2) (by first | exact hk | omega)) (cwV 2 hts gL_does_X6_of rfl rfl rfl (by decide +kernel) ⟨(Nat.le_of_ble_eq_true rfl), (Nat.le_of_ble_eq_true rfl)⟩) (PW_rc hK hW) hW rfl hl.1 (Nat.le_of_ble_eq_true rfl) dL_does_172 ⟨Nat.zero_le _, Nat.zero_le _⟩ ?_
            refine x_bipush hx hb dL_does_175 (by decide +kernel) ?_
            refine x_icmp_neE (tgt := 184) hx hb dL_does_177 (by decide) (by omega) ?_
            refine x_iconst hx hb dL_does_180 ?_
            refine lv_goto (tgt := 185) hx hb dL_does_181 (by decide) ?_
            exact x_zretM hx hb hr hlocks (by first | rfl | omega) (by exact Or.inr rfl) ⟨_, _, _, hW, by first | exact hG2 | exact GD_mono hG2 (by omega) (by omega) | exact GD_mono hG (by omega) (by omega), by omega⟩ hS dL_does_185
        · exfalso; omega
    by_cases k_29_2 : lowA v 18 = 2
    · refine x_tabIn (k := 2) (off := 157) (tgt := 186) hx hb dL_does_29 k_29_2 (by decide) (by decide) (by decide) rfl (by decide) ?_
      refine lv_aload_n hx hb dL_does_186 rfl (lv_at hl 2 rfl) ?_
      refine x_iconst hx hb dL_does_187 ?_
      refine x_callVR (As := [.int (zI 3)]) (rest := []) S hK (p_count_3 l D cs a τ pd ln (by first | exact hG | exact hG2)) (cwV 1 hts gL_does_X6_count rfl rfl rfl (by decide +kernel) ⟨(Nat.le_of_ble_eq_true rfl), (Nat.le_of_ble_eq_true rfl)⟩) (PW_rc hK hW) hW rfl hl.1 (Nat.le_of_ble_eq_true rfl) dL_does_188 ⟨Nat.zero_le _, Nat.zero_le _⟩ ?_
      refine lv_istore (lv' := [(7, .int (zI (τ 8))), (4, .int (zI 0)), (3, .int (zI (τ 7))), (0, .ref (a 0)), (1, .int (zI v)), (2, .int (zI w))]) hx hb dL_does_191 hl (by decide) rfl (fun ls hl => ?_)
      refine lv_aload_n hx hb dL_does_193 rfl (lv_at hl 3 rfl) ?_
      refine lv_iload hx hb dL_does_194 (lv_at hl 1 rfl) ?_
      refine x_iconst hx hb dL_does_196 ?_
      refine lv_iload_n hx hb dL_does_197 rfl (lv_at hl 5 rfl) ?_
      refine lv_iload_n hx hb dL_does_198 rfl (lv_at hl 4 rfl) ?_
      refine x_bipush hx hb dL_does_199 (by decide +kernel) ?_
      refine lv_ishr hx hb dL_does_201 ?_
      refine lv_topi (fun v_ ev_ => ?_)
      obtain ⟨u2, hu2, rfl⟩ : ∃ z : Int, (-2147483648 ≤ z ∧ z < 2147483648) ∧ v_ = zI z := ⟨v_.toInt, zI_rng v_, (zI_of v_).symm⟩
      clear ev_
      refine x_iconst hx hb dL_does_202 ?_
      refine lv_iand hx hb dL_does_203 ?_
      refine lv_topi (fun v_ ev_ => ?_)
      obtain ⟨u3, hu3, rfl⟩ : ∃ z : Int, (-2147483648 ≤ z ∧ z < 2147483648) ∧ v_ = zI z := ⟨v_.toInt, zI_rng v_, (zI_of v_).symm⟩
      clear ev_
      refine x_if_ne (tgt := 212) hx hb dL_does_204 (by decide) (by omega) (fun c_204 => ?_) (fun c_204 => ?_)
      · refine x_sipush hx hb dL_does_212 (by decide +kernel) ?_
        refine x_callSR (As := [.int (zI w), .int (zI 4000)]) (rest := [.int (zI 1), .int (zI 0), .ref (a 0)]) S hK (l_low l D cs w 4000 (by omega)) (va_cwS 2 hts gL_does_L_low rfl rfl rfl (by decide +kernel) ⟨(Nat.le_of_ble_eq_true rfl), (Nat.le_of_ble_eq_true rfl)⟩) trivial rfl hl.1 (Nat.le_of_ble_eq_true rfl) dL_does_215 ⟨Nat.zero_le _, Nat.zero_le _⟩ ?_
        have hpw : 1 ≤ (1 + (lowA w 4000)) ∧ (1 + (lowA w 4000)) ≤ 4000 := by have := lowA_rng w (nn := 4000) (by decide); omega
        have hwe := wnL_e (k := 0) (w := 1 + (lowA w 4000)) h8 hme hpw
        refine x_iadd hx hb dL_does_218 ?_
        by_cases z_219 : wnL τ 0 (1 + (lowA w 4000)) = 0
        · exfalso; omega
        · refine x_callVM (As := [.int (zI 0), .int (zI (1 + (lowA w 4000)))]) (rest := []) S hK (p_load_bad l D cs a τ pd ln 0 (1 + (lowA w 4000)) (by first | exact hG | exact hG2) (by exact hI) (by first | exact hk | omega) (by omega) (by omega)) (cwV 2 hts gL_does_X6_load rfl rfl rfl (by decide +kernel) ⟨(Nat.le_of_ble_eq_true rfl), (Nat.le_of_ble_eq_true rfl)⟩) (PW_rc hK hW) hW rfl hl.1 (Nat.le_of_ble_eq_true rfl) dL_does_219 ⟨Nat.zero_le _, Nat.zero_le _⟩ hS (fun q hq => hq) (fun H locs hB hF hS => ?_)
          have hW : PW D cs a τ pd ln H := hB
          refine lv_istore (lv' := [(8, .int (zI (wnL τ 0 (1 + (lowA w 4000))))), (7, .int (zI (τ 8))), (4, .int (zI 0)), (3, .int (zI (τ 7))), (0, .ref (a 0)), (1, .int (zI v)), (2, .int (zI w))]) hx hb dL_does_222 hl (by decide) rfl (fun ls hl => ?_)
          refine lv_iload_n hx hb dL_does_224 rfl (lv_at hl 3 rfl) ?_
          refine x_if_ne (tgt := 242) hx hb dL_does_225 (by decide) (by omega) (fun c_225 => ?_) (fun c_225 => ?_)
          · exfalso; omega
          · refine lv_iload hx hb dL_does_228 (lv_at hl 0 rfl) ?_
            refine x_iconst hx hb dL_does_230 ?_
            refine x_icmp_neE (tgt := 238) hx hb dL_does_231 (by decide) (by omega) ?_
            refine x_iconst hx hb dL_does_234 ?_
            refine lv_goto (tgt := 298) hx hb dL_does_235 (by decide) ?_
            exact x_zretM hx hb hr hlocks (by first | rfl | omega) (by exact Or.inr rfl) ⟨_, _, _, hW, by first | exact hG2 | exact GD_mono hG2 (by omega) (by omega) | exact GD_mono hG (by omega) (by omega), by omega⟩ hS dL_does_298
      · refine x_bipush hx hb dL_does_207 (by decide +kernel) ?_
        refine lv_goto (tgt := 215) hx hb dL_does_209 (by decide) ?_
        refine x_callSR (As := [.int (zI w), .int (zI 40)]) (rest := [.int (zI 1), .int (zI 0), .ref (a 0)]) S hK (l_low l D cs w 40 (by omega)) (va_cwS 2 hts gL_does_L_low rfl rfl rfl (by decide +kernel) ⟨(Nat.le_of_ble_eq_true rfl), (Nat.le_of_ble_eq_true rfl)⟩) trivial rfl hl.1 (Nat.le_of_ble_eq_true rfl) dL_does_215 ⟨Nat.zero_le _, Nat.zero_le _⟩ ?_
        have hpw : 1 ≤ (1 + (lowA w 40)) ∧ (1 + (lowA w 40)) ≤ 4000 := by have := lowA_rng w (nn := 40) (by decide); omega
        have hwe := wnL_e (k := 0) (w := 1 + (lowA w 40)) h8 hme hpw
        refine x_iadd hx hb dL_does_218 ?_
        by_cases z_219 : wnL τ 0 (1 + (lowA w 40)) = 0
        · exfalso; omega
        · refine x_callVM (As := [.int (zI 0), .int (zI (1 + (lowA w 40)))]) (rest := []) S hK (p_load_bad l D cs a τ pd ln 0 (1 + (lowA w 40)) (by first | exact hG | exact hG2) (by exact hI) (by first | exact hk | omega) (by omega) (by omega)) (cwV 2 hts gL_does_X6_load rfl rfl rfl (by decide +kernel) ⟨(Nat.le_of_ble_eq_true rfl), (Nat.le_of_ble_eq_true rfl)⟩) (PW_rc hK hW) hW rfl hl.1 (Nat.le_of_ble_eq_true rfl) dL_does_219 ⟨Nat.zero_le _, Nat.zero_le _⟩ hS (fun q hq => hq) (fun H locs hB hF hS => ?_)
          have hW : PW D cs a τ pd ln H := hB
          refine lv_istore (lv' := [(8, .int (zI (wnL τ 0 (1 + (lowA w 40))))), (7, .int (zI (τ 8))), (4, .int (zI 0)), (3, .int (zI (τ 7))), (0, .ref (a 0)), (1, .int (zI v)), (2, .int (zI w))]) hx hb dL_does_222 hl (by decide) rfl (fun ls hl => ?_)
          refine lv_iload_n hx hb dL_does_224 rfl (lv_at hl 3 rfl) ?_
          refine x_if_ne (tgt := 242) hx hb dL_does_225 (by decide) (by omega) (fun c_225 => ?_) (fun c_225 => ?_)
          · exfalso; omega
          · refine lv_iload hx hb dL_does_228 (lv_at hl 0 rfl) ?_
            refine x_iconst hx hb dL_does_230 ?_
            refine x_icmp_neE (tgt := 238) hx hb dL_does_231 (by decide) (by omega) ?_
            refine x_iconst hx hb dL_does_234 ?_
            refine lv_goto (tgt := 298) hx hb dL_does_235 (by decide) ?_
            exact x_zretM hx hb hr hlocks (by first | rfl | omega) (by exact Or.inr rfl) ⟨_, _, _, hW, by first | exact hG2 | exact GD_mono hG2 (by omega) (by omega) | exact GD_mono hG (by omega) (by omega), by omega⟩ hS dL_does_298
    by_cases k_29_3 : lowA v 18 = 3
    · refine x_tabIn (k := 3) (off := 157) (tgt := 186) hx hb dL_does_29 k_29_3 (by decide) (by decide) (by decide) rfl (by decide) ?_
      refine lv_aload_n hx hb dL_does_186 rfl (lv_at hl 2 rfl) ?_
      refine x_iconst hx hb dL_does_187 ?_
      refine x_callVR (As := [.int (zI 3)]) (rest := []) S hK (p_count_3 l D cs a τ pd ln (by first | exact hG | exact hG2)) (cwV 1 hts gL_does_X6_count rfl rfl rfl (by decide +kernel) ⟨(Nat.le_of_ble_eq_true rfl), (Nat.le_of_ble_eq_true rfl)⟩) (PW_rc hK hW) hW rfl hl.1 (Nat.le_of_ble_eq_true rfl) dL_does_188 ⟨Nat.zero_le _, Nat.zero_le _⟩ ?_
      refine lv_istore (lv' := [(7, .int (zI (τ 8))), (4, .int (zI 0)), (3, .int (zI (τ 7))), (0, .ref (a 0)), (1, .int (zI v)), (2, .int (zI w))]) hx hb dL_does_191 hl (by decide) rfl (fun ls hl => ?_)
      refine lv_aload_n hx hb dL_does_193 rfl (lv_at hl 3 rfl) ?_
      refine lv_iload hx hb dL_does_194 (lv_at hl 1 rfl) ?_
      refine x_iconst hx hb dL_does_196 ?_
      refine lv_iload_n hx hb dL_does_197 rfl (lv_at hl 5 rfl) ?_
      refine lv_iload_n hx hb dL_does_198 rfl (lv_at hl 4 rfl) ?_
      refine x_bipush hx hb dL_does_199 (by decide +kernel) ?_
      refine lv_ishr hx hb dL_does_201 ?_
      refine lv_topi (fun v_ ev_ => ?_)
      obtain ⟨u2, hu2, rfl⟩ : ∃ z : Int, (-2147483648 ≤ z ∧ z < 2147483648) ∧ v_ = zI z := ⟨v_.toInt, zI_rng v_, (zI_of v_).symm⟩
      clear ev_
      refine x_iconst hx hb dL_does_202 ?_
      refine lv_iand hx hb dL_does_203 ?_
      refine lv_topi (fun v_ ev_ => ?_)
      obtain ⟨u3, hu3, rfl⟩ : ∃ z : Int, (-2147483648 ≤ z ∧ z < 2147483648) ∧ v_ = zI z := ⟨v_.toInt, zI_rng v_, (zI_of v_).symm⟩
      clear ev_
      refine x_if_ne (tgt := 212) hx hb dL_does_204 (by decide) (by omega) (fun c_204 => ?_) (fun c_204 => ?_)
      · refine x_sipush hx hb dL_does_212 (by decide +kernel) ?_
        refine x_callSR (As := [.int (zI w), .int (zI 4000)]) (rest := [.int (zI 1), .int (zI 0), .ref (a 0)]) S hK (l_low l D cs w 4000 (by omega)) (va_cwS 2 hts gL_does_L_low rfl rfl rfl (by decide +kernel) ⟨(Nat.le_of_ble_eq_true rfl), (Nat.le_of_ble_eq_true rfl)⟩) trivial rfl hl.1 (Nat.le_of_ble_eq_true rfl) dL_does_215 ⟨Nat.zero_le _, Nat.zero_le _⟩ ?_
        have hpw : 1 ≤ (1 + (lowA w 4000)) ∧ (1 + (lowA w 4000)) ≤ 4000 := by have := lowA_rng w (nn := 4000) (by decide); omega
        have hwe := wnL_e (k := 0) (w := 1 + (lowA w 4000)) h8 hme hpw
        refine x_iadd hx hb dL_does_218 ?_
        by_cases z_219 : wnL τ 0 (1 + (lowA w 4000)) = 0
        · exfalso; omega
        · refine x_callVM (As := [.int (zI 0), .int (zI (1 + (lowA w 4000)))]) (rest := []) S hK (p_load_bad l D cs a τ pd ln 0 (1 + (lowA w 4000)) (by first | exact hG | exact hG2) (by exact hI) (by first | exact hk | omega) (by omega) (by omega)) (cwV 2 hts gL_does_X6_load rfl rfl rfl (by decide +kernel) ⟨(Nat.le_of_ble_eq_true rfl), (Nat.le_of_ble_eq_true rfl)⟩) (PW_rc hK hW) hW rfl hl.1 (Nat.le_of_ble_eq_true rfl) dL_does_219 ⟨Nat.zero_le _, Nat.zero_le _⟩ hS (fun q hq => hq) (fun H locs hB hF hS => ?_)
          have hW : PW D cs a τ pd ln H := hB
          refine lv_istore (lv' := [(8, .int (zI (wnL τ 0 (1 + (lowA w 4000))))), (7, .int (zI (τ 8))), (4, .int (zI 0)), (3, .int (zI (τ 7))), (0, .ref (a 0)), (1, .int (zI v)), (2, .int (zI w))]) hx hb dL_does_222 hl (by decide) rfl (fun ls hl => ?_)
          refine lv_iload_n hx hb dL_does_224 rfl (lv_at hl 3 rfl) ?_
          refine x_if_ne (tgt := 242) hx hb dL_does_225 (by decide) (by omega) (fun c_225 => ?_) (fun c_225 => ?_)
          · exfalso; omega
          · refine lv_iload hx hb dL_does_228 (lv_at hl 0 rfl) ?_
            refine x_iconst hx hb dL_does_230 ?_
            refine x_icmp_neE (tgt := 238) hx hb dL_does_231 (by decide) (by omega) ?_
            refine x_iconst hx hb dL_does_234 ?_
            refine lv_goto (tgt := 298) hx hb dL_does_235 (by decide) ?_
            exact x_zretM hx hb hr hlocks (by first | rfl | omega) (by exact Or.inr rfl) ⟨_, _, _, hW, by first | exact hG2 | exact GD_mono hG2 (by omega) (by omega) | exact GD_mono hG (by omega) (by omega), by omega⟩ hS dL_does_298
      · refine x_bipush hx hb dL_does_207 (by decide +kernel) ?_
        refine lv_goto (tgt := 215) hx hb dL_does_209 (by decide) ?_
        refine x_callSR (As := [.int (zI w), .int (zI 40)]) (rest := [.int (zI 1), .int (zI 0), .ref (a 0)]) S hK (l_low l D cs w 40 (by omega)) (va_cwS 2 hts gL_does_L_low rfl rfl rfl (by decide +kernel) ⟨(Nat.le_of_ble_eq_true rfl), (Nat.le_of_ble_eq_true rfl)⟩) trivial rfl hl.1 (Nat.le_of_ble_eq_true rfl) dL_does_215 ⟨Nat.zero_le _, Nat.zero_le _⟩ ?_
        have hpw : 1 ≤ (1 + (lowA w 40)) ∧ (1 + (lowA w 40)) ≤ 4000 := by have := lowA_rng w (nn := 40) (by decide); omega
        have hwe := wnL_e (k := 0) (w := 1 + (lowA w 40)) h8 hme hpw
        refine x_iadd hx hb dL_does_218 ?_
        by_cases z_219 : wnL τ 0 (1 + (lowA w 40)) = 0
        · exfalso; omega
        · refine x_callVM (As := [.int (zI 0), .int (zI (1 + (lowA w 40)))]) (rest := []) S hK (p_load_bad l D cs a τ pd ln 0 (1 + (lowA w 40)) (by first | exact hG | exact hG2) (by exact hI) (by first | exact hk | omega) (by omega) (by omega)) (cwV 2 hts gL_does_X6_load rfl rfl rfl (by decide +kernel) ⟨(Nat.le_of_ble_eq_true rfl), (Nat.le_of_ble_eq_true rfl)⟩) (PW_rc hK hW) hW rfl hl.1 (Nat.le_of_ble_eq_true rfl) dL_does_219 ⟨Nat.zero_le _, Nat.zero_le _⟩ hS (fun q hq => hq) (fun H locs hB hF hS => ?_)
          have hW : PW D cs a τ pd ln H := hB
          refine lv_istore (lv' := [(8, .int (zI (wnL τ 0 (1 + (lowA w 40))))), (7, .int (zI (τ 8))), (4, .int (zI 0)), (3, .int (zI (τ 7))), (0, .ref (a 0)), (1, .int (zI v)), (2, .int (zI w))]) hx hb dL_does_222 hl (by decide) rfl (fun ls hl => ?_)
          refine lv_iload_n hx hb dL_does_224 rfl (lv_at hl 3 rfl) ?_
          refine x_if_ne (tgt := 242) hx hb dL_does_225 (by decide) (by omega) (fun c_225 => ?_) (fun c_225 => ?_)
          · exfalso; omega
          · refine lv_iload hx hb dL_does_228 (lv_at hl 0 rfl) ?_
            refine x_iconst hx hb dL_does_230 ?_
            refine x_icmp_neE (tgt := 238) hx hb dL_does_231 (by decide) (by omega) ?_
            refine x_iconst hx hb dL_does_234 ?_
            refine lv_goto (tgt := 298) hx hb dL_does_235 (by decide) ?_
            exact x_zretM hx hb hr hlocks (by first | rfl | omega) (by exact Or.inr rfl) ⟨_, _, _, hW, by first | exact hG2 | exact GD_mono hG2 (by omega) (by omega) | exact GD_mono hG (by omega) (by omega), by omega⟩ hS dL_does_298
    by_cases k_29_4 : lowA v 18 = 4
    · refine x_tabIn (k := 4) (off := 270) (tgt := 299) hx hb dL_does_29 k_29_4 (by decide) (by decide) (by decide) rfl (by decide) ?_
      refine lv_iload_n hx hb dL_does_299 rfl (lv_at hl 4 rfl) ?_
      refine x_bipush hx hb dL_does_300 (by decide +kernel) ?_
      refine x_callSR (As := [.int (zI w), .int (zI 12)]) (rest := []) S hK (l_low l D cs w 12 (by omega)) (va_cwS 2 hts gL_does_L_low rfl rfl rfl (by decide +kernel) ⟨(Nat.le_of_ble_eq_true rfl), (Nat.le_of_ble_eq_true rfl)⟩) trivial rfl hl.1 (Nat.le_of_ble_eq_true rfl) dL_does_302 ⟨Nat.zero_le _, Nat.zero_le _⟩ ?_
      have hwh := lowA_rng w (nn := 12) (by decide)
      refine lv_istore (lv' := [(9, .int (zI (lowA w 12))), (4, .int (zI 0)), (3, .int (zI (τ 7))), (0, .ref (a 0)), (1, .int (zI v)), (2, .int (zI w))]) hx hb dL_does_305 hl (by decide) rfl (fun ls hl => ?_)
      refine lv_aload_n hx hb dL_does_307 rfl (lv_at hl 3 rfl) ?_
      refine lv_iload hx hb dL_does_308 (lv_at hl 0 rfl) ?_
      refine x_iconst hx hb dL_does_310 ?_
      by_cases z_311 : (lowA w 12) < τ 8
      · exfalso; have := gd_l hG (k := lowA w 12) (by omega); omega
      · refine x_callVR (As := [.int (zI (lowA w 12)), .int (zI 2)]) (rest := []) S hK (p_ofLoad_bad l D cs a τ pd ln (lowA w 12) 2 (by first | exact hG | exact hG2) (by first | exact hk | omega) (by omega)) (cwV 2 hts gL_does_X6_ofLoad rfl rfl rfl (by decide +kernel) ⟨(Nat.le_of_ble_eq_true rfl), (Nat.le_of_ble_eq_true rfl)⟩) (PW_rc hK hW) hW rfl hl.1 (Nat.le_of_ble_eq_true rfl) dL_does_311 ⟨Nat.zero_le _, Nat.zero_le _⟩ ?_
        refine lv_istore (lv' := [(10, .int (zI (-1))), (9, .int (zI (lowA w 12))), (4, .int (zI 0)), (3, .int (zI (τ 7))), (0, .ref (a 0)), (1, .int (zI v)), (2, .int (zI w))]) hx hb dL_does_314 hl (by decide) rfl (fun ls hl => ?_)
        refine lv_iload_n hx hb dL_does_316 rfl (lv_at hl 3 rfl) ?_
        refine x_if_ne (tgt := 324) hx hb dL_does_317 (by decide) (by omega) (fun c_317 => ?_) (fun c_317 => ?_)
        · exfalso; omega
        · refine x_iconst hx hb dL_does_320 ?_
          refine lv_goto (tgt := 330) hx hb dL_does_321 (by decide) ?_
          refine lv_istore (lv' := [(11, .int (zI 0)), (10, .int (zI (-1))), (9, .int (zI (lowA w 12))), (4, .int (zI 0)), (3, .int (zI (τ 7))), (0, .ref (a 0)), (1, .int (zI v)), (2, .int (zI w))]) hx hb dL_does_330 hl (by decide) rfl (fun ls hl => ?_)
          refine lv_aload_n hx hb dL_does_332 rfl (lv_at hl 5 rfl) ?_
          refine lv_iload hx hb dL_does_333 (lv_at hl 2 rfl) ?_
          refine x_callVM (As := [.int (zI (lowA w 12))]) (rest := []) S hK (p_turn_bad l D cs a τ pd ln (lowA w 12) (by first | exact hG | exact hG2) (by exact hI) (by first | exact hk | omega) (by omega)) (cwV 1 hts gL_does_X6_turn rfl rfl rfl (by decide +kernel) ⟨(Nat.le_of_ble_eq_true rfl), (Nat.le_of_ble_eq_true rfl)⟩) (PW_rc hK hW) hW rfl hl.1 (Nat.le_of_ble_eq_true rfl) dL_does_335 ⟨Nat.zero_le _, Nat.zero_le _⟩ hS (fun q hq => hq) (fun H locs hB hF hS => ?_)
          have hW : PW D cs a τ pd ln H := hB
          refine lv_istore (lv' := [(12, .int (zI (-1))), (11, .int (zI 0)), (10, .int (zI (-1))), (9, .int (zI (lowA w 12))), (4, .int (zI 0)), (3, .int (zI (τ 7))), (0, .ref (a 0)), (1, .int (zI v)), (2, .int (zI w))]) hx hb dL_does_338 hl (by decide) rfl (fun ls hl => ?_)
          refine lv_iload hx hb dL_does_340 (lv_at hl 3 rfl) ?_
          refine lv_aload_n hx hb dL_does_342 rfl (lv_at hl 6 rfl) ?_
          refine x_iconst hx hb dL_does_343 ?_
          refine x_callVR (As := [.int (zI 3)]) (rest := [.int (zI (lowA w 12))]) S hK (p_count_3 l D cs a τ pd ln (by first | exact hG | exact hG2)) (cwV 1 hts gL_does_X6_count rfl rfl rfl (by decide +kernel) ⟨(Nat.le_of_ble_eq_true rfl), (Nat.le_of_ble_eq_true rfl)⟩) (PW_rc hK hW) hW rfl hl.1 (Nat.le_of_ble_eq_true rfl) dL_does_344 ⟨Nat.zero_le _, Nat.zero_le _⟩ ?_
          refine x_icmp_lt (tgt := 364) hx hb dL_does_347 (by decide) (by omega) (by omega) (fun c_347 => ?_) (fun c_347 => ?_)
          · exfalso; omega
          · refine lv_iload hx hb dL_does_350 (lv_at hl 0 rfl) ?_
            refine x_iconst hx hb dL_does_352 ?_
            refine x_icmp_ne (tgt := 360) hx hb dL_does_353 (by decide) (by decide) (by decide) (fun q => absurd q (by decide)) (fun _ => ?_)
            refine x_iconst hx hb dL_does_356 ?_
            refine lv_goto (tgt := 409) hx hb dL_does_357 (by decide) ?_
            exact x_zretM hx hb hr hlocks (by first | rfl | omega) (by exact Or.inr rfl) ⟨_, _, _, hW, by first | exact hG2 | exact GD_mono hG2 (by omega) (by omega) | exact GD_mono hG (by omega) (by omega), by omega⟩ hS dL_does_409
    by_cases k_29_5 : lowA v 18 = 5
    · refine x_tabIn (k := 5) (off := 270) (tgt := 299) hx hb dL_does_29 k_29_5 (by decide) (by decide) (by decide) rfl (by decide) ?_
      refine lv_iload_n hx hb dL_does_299 rfl (lv_at hl 4 rfl) ?_
      refine x_bipush hx hb dL_does_300 (by decide +kernel) ?_
      refine x_callSR (As := [.int (zI w), .int (zI 12)]) (rest := []) S hK (l_low l D cs w 12 (by omega)) (va_cwS 2 hts gL_does_L_low rfl rfl rfl (by decide +kernel) ⟨(Nat.le_of_ble_eq_true rfl), (Nat.le_of_ble_eq_true rfl)⟩) trivial rfl hl.1 (Nat.le_of_ble_eq_true rfl) dL_does_302 ⟨Nat.zero_le _, Nat.zero_le _⟩ ?_
      have hwh := lowA_rng w (nn := 12) (by decide)
      refine lv_istore (lv' := [(9, .int (zI (lowA w 12))), (4, .int (zI 0)), (3, .int (zI (τ 7))), (0, .ref (a 0)), (1, .int (zI v)), (2, .int (zI w))]) hx hb dL_does_305 hl (by decide) rfl (fun ls hl => ?_)
      refine lv_aload_n hx hb dL_does_307 rfl (lv_at hl 3 rfl) ?_
      refine lv_iload hx hb dL_does_308 (lv_at hl 0 rfl) ?_
      refine x_iconst hx hb dL_does_310 ?_
      by_cases z_311 : (lowA w 12) < τ 8
      · exfalso; have := gd_l hG (k := lowA w 12) (by omega); omega
      · refine x_callVR (As := [.int (zI (lowA w 12)), .int (zI 2)]) (rest := []) S hK (p_ofLoad_bad l D cs a τ pd ln (lowA w 12) 2 (by first | exact hG | exact hG2) (by first | exact hk | omega) (by omega)) (cwV 2 hts gL_does_X6_ofLoad rfl rfl rfl (by decide +kernel) ⟨(Nat.le_of_ble_eq_true rfl), (Nat.le_of_ble_eq_true rfl)⟩) (PW_rc hK hW) hW rfl hl.1 (Nat.le_of_ble_eq_true rfl) dL_does_311 ⟨Nat.zero_le _, Nat.zero_le _⟩ ?_
        refine lv_istore (lv' := [(10, .int (zI (-1))), (9, .int (zI (lowA w 12))), (4, .int (zI 0)), (3, .int (zI (τ 7))), (0, .ref (a 0)), (1, .int (zI v)), (2, .int (zI w))]) hx hb dL_does_314 hl (by decide) rfl (fun ls hl => ?_)
        refine lv_iload_n hx hb dL_does_316 rfl (lv_at hl 3 rfl) ?_
        refine x_if_ne (tgt := 324) hx hb dL_does_317 (by decide) (by omega) (fun c_317 => ?_) (fun c_317 => ?_)
        · exfalso; omega
        · refine x_iconst hx hb dL_does_320 ?_
          refine lv_goto (tgt := 330) hx hb dL_does_321 (by decide) ?_
          refine lv_istore (lv' := [(11, .int (zI 0)), (10, .int (zI (-1))), (9, .int (zI (lowA w 12))), (4, .int (zI 0)), (3, .int (zI (τ 7))), (0, .ref (a 0)), (1, .int (zI v)), (2, .int (zI w))]) hx hb dL_does_330 hl (by decide) rfl (fun ls hl => ?_)
          refine lv_aload_n hx hb dL_does_332 rfl (lv_at hl 5 rfl) ?_
          refine lv_iload hx hb dL_does_333 (lv_at hl 2 rfl) ?_
          refine x_callVM (As := [.int (zI (lowA w 12))]) (rest := []) S hK (p_turn_bad l D cs a τ pd ln (lowA w 12) (by first | exact hG | exact hG2) (by exact hI) (by first | exact hk | omega) (by omega)) (cwV 1 hts gL_does_X6_turn rfl rfl rfl (by decide +kernel) ⟨(Nat.le_of_ble_eq_true rfl), (Nat.le_of_ble_eq_true rfl)⟩) (PW_rc hK hW) hW rfl hl.1 (Nat.le_of_ble_eq_true rfl) dL_does_335 ⟨Nat.zero_le _, Nat.zero_le _⟩ hS (fun q hq => hq) (fun H locs hB hF hS => ?_)
          have hW : PW D cs a τ pd ln H := hB
          refine lv_istore (lv' := [(12, .int (zI (-1))), (11, .int (zI 0)), (10, .int (zI (-1))), (9, .int (zI (lowA w 12))), (4, .int (zI 0)), (3, .int (zI (τ 7))), (0, .ref (a 0)), (1, .int (zI v)), (2, .int (zI w))]) hx hb dL_does_338 hl (by decide) rfl (fun ls hl => ?_)
          refine lv_iload hx hb dL_does_340 (lv_at hl 3 rfl) ?_
          refine lv_aload_n hx hb dL_does_342 rfl (lv_at hl 6 rfl) ?_
          refine x_iconst hx hb dL_does_343 ?_
          refine x_callVR (As := [.int (zI 3)]) (rest := [.int (zI (lowA w 12))]) S hK (p_count_3 l D cs a τ pd ln (by first | exact hG | exact hG2)) (cwV 1 hts gL_does_X6_count rfl rfl rfl (by decide +kernel) ⟨(Nat.le_of_ble_eq_true rfl), (Nat.le_of_ble_eq_true rfl)⟩) (PW_rc hK hW) hW rfl hl.1 (Nat.le_of_ble_eq_true rfl) dL_does_344 ⟨Nat.zero_le _, Nat.zero_le _⟩ ?_
          refine x_icmp_lt (tgt := 364) hx hb dL_does_347 (by decide) (by omega) (by omega) (fun c_347 => ?_) (fun c_347 => ?_)
          · exfalso; omega
          · refine lv_iload hx hb dL_does_350 (lv_at hl 0 rfl) ?_
            refine x_iconst hx hb dL_does_352 ?_
            refine x_icmp_ne (tgt := 360) hx hb dL_does_353 (by decide) (by decide) (by decide) (fun q => absurd q (by decide)) (fun _ => ?_)
            refine x_iconst hx hb dL_does_356 ?_
            refine lv_goto (tgt := 409) hx hb dL_does_357 (by decide) ?_
            exact x_zretM hx hb hr hlocks (by first | rfl | omega) (by exact Or.inr rfl) ⟨_, _, _, hW, by first | exact hG2 | exact GD_mono hG2 (by omega) (by omega) | exact GD_mono hG (by omega) (by omega), by omega⟩ hS dL_does_409
    by_cases k_29_6 : lowA v 18 = 6
    · refine x_tabIn (k := 6) (off := 270) (tgt := 299) hx hb dL_does_29 k_29_6 (by decide) (by decide) (by decide) rfl (by decide) ?_
      refine lv_iload_n hx hb dL_does_299 rfl (lv_at hl 4 rfl) ?_
      refine x_bipush hx hb dL_does_300 (by decide +kernel) ?_
      refine x_callSR (As := [.int (zI w), .int (zI 12)]) (rest := []) S hK (l_low l D cs w 12 (by omega)) (va_cwS 2 hts gL_does_L_low rfl rfl rfl (by decide +kernel) ⟨(Nat.le_of_ble_eq_true rfl), (Nat.le_of_ble_eq_true rfl)⟩) trivial rfl hl.1 (Nat.le_of_ble_eq_true rfl) dL_does_302 ⟨Nat.zero_le _, Nat.zero_le _⟩ ?_
      have hwh := lowA_rng w (nn := 12) (by decide)
      refine lv_istore (lv' := [(9, .int (zI (lowA w 12))), (4, .int (zI 0)), (3, .int (zI (τ 7))), (0, .ref (a 0)), (1, .int (zI v)), (2, .int (zI w))]) hx hb dL_does_305 hl (by decide) rfl (fun ls hl => ?_)
      refine lv_aload_n hx hb dL_does_307 rfl (lv_at hl 3 rfl) ?_
      refine lv_iload hx hb dL_does_308 (lv_at hl 0 rfl) ?_
      refine x_iconst hx hb dL_does_310 ?_
      by_cases z_311 : (lowA w 12) < τ 8
      · exfalso; have := gd_l hG (k := lowA w 12) (by omega); omega
      · refine x_callVR (As := [.int (zI (lowA w 12)), .int (zI 2)]) (rest := []) S hK (p_ofLoad_bad l D cs a τ pd ln (lowA w 12) 2 (by first | exact hG | exact hG2) (by first | exact hk | omega) (by omega)) (cwV 2 hts gL_does_X6_ofLoad rfl rfl rfl (by decide +kernel) ⟨(Nat.le_of_ble_eq_true rfl), (Nat.le_of_ble_eq_true rfl)⟩) (PW_rc hK hW) hW rfl hl.1 (Nat.le_of_ble_eq_true rfl) dL_does_311 ⟨Nat.zero_le _, Nat.zero_le _⟩ ?_
        refine lv_istore (lv' := [(10, .int (zI (-1))), (9, .int (zI (lowA w 12))), (4, .int (zI 0)), (3, .int (zI (τ 7))), (0, .ref (a 0)), (1, .int (zI v)), (2, .int (zI w))]) hx hb dL_does_314 hl (by decide) rfl (fun ls hl => ?_)
        refine lv_iload_n hx hb dL_does_316 rfl (lv_at hl 3 rfl) ?_
        refine x_if_ne (tgt := 324) hx hb dL_does_317 (by decide) (by omega) (fun c_317 => ?_) (fun c_317 => ?_)
        · exfalso; omega
        · refine x_iconst hx hb dL_does_320 ?_
          refine lv_goto (tgt := 330) hx hb dL_does_321 (by decide) ?_
          refine lv_istore (lv' := [(11, .int (zI 0)), (10, .int (zI (-1))), (9, .int (zI (lowA w 12))), (4, .int (zI 0)), (3, .int (zI (τ 7))), (0, .ref (a 0)), (1, .int (zI v)), (2, .int (zI w))]) hx hb dL_does_330 hl (by decide) rfl (fun ls hl => ?_)
          refine lv_aload_n hx hb dL_does_332 rfl (lv_at hl 5 rfl) ?_
          refine lv_iload hx hb dL_does_333 (lv_at hl 2 rfl) ?_
          refine x_callVM (As := [.int (zI (lowA w 12))]) (rest := []) S hK (p_turn_bad l D cs a τ pd ln (lowA w 12) (by first | exact hG | exact hG2) (by exact hI) (by first | exact hk | omega) (by omega)) (cwV 1 hts gL_does_X6_turn rfl rfl rfl (by decide +kernel) ⟨(Nat.le_of_ble_eq_true rfl), (Nat.le_of_ble_eq_true rfl)⟩) (PW_rc hK hW) hW rfl hl.1 (Nat.le_of_ble_eq_true rfl) dL_does_335 ⟨Nat.zero_le _, Nat.zero_le _⟩ hS (fun q hq => hq) (fun H locs hB hF hS => ?_)
          have hW : PW D cs a τ pd ln H := hB
          refine lv_istore (lv' := [(12, .int (zI (-1))), (11, .int (zI 0)), (10, .int (zI (-1))), (9, .int (zI (lowA w 12))), (4, .int (zI 0)), (3, .int (zI (τ 7))), (0, .ref (a 0)), (1, .int (zI v)), (2, .int (zI w))]) hx hb dL_does_338 hl (by decide) rfl (fun ls hl => ?_)
          refine lv_iload hx hb dL_does_340 (lv_at hl 3 rfl) ?_
          refine lv_aload_n hx hb dL_does_342 rfl (lv_at hl 6 rfl) ?_
          refine x_iconst hx hb dL_does_343 ?_
          refine x_callVR (As := [.int (zI 3)]) (rest := [.int (zI (lowA w 12))]) S hK (p_count_3 l D cs a τ pd ln (by first | exact hG | exact hG2)) (cwV 1 hts gL_does_X6_count rfl rfl rfl (by decide +kernel) ⟨(Nat.le_of_ble_eq_true rfl), (Nat.le_of_ble_eq_true rfl)⟩) (PW_rc hK hW) hW rfl hl.1 (Nat.le_of_ble_eq_true rfl) dL_does_344 ⟨Nat.zero_le _, Nat.zero_le _⟩ ?_
          refine x_icmp_lt (tgt := 364) hx hb dL_does_347 (by decide) (by omega) (by omega) (fun c_347 => ?_) (fun c_347 => ?_)
          · exfalso; omega
          · refine lv_iload hx hb dL_does_350 (lv_at hl 0 rfl) ?_
            refine x_iconst hx hb dL_does_352 ?_
            refine x_icmp_ne (tgt := 360) hx hb dL_does_353 (by decide) (by decide) (by decide) (fun q => absurd q (by decide)) (fun _ => ?_)
            refine x_iconst hx hb dL_does_356 ?_
            refine lv_goto (tgt := 409) hx hb dL_does_357 (by decide) ?_
            exact x_zretM hx hb hr hlocks (by first | rfl | omega) (by exact Or.inr rfl) ⟨_, _, _, hW, by first | exact hG2 | exact GD_mono hG2 (by omega) (by omega) | exact GD_mono hG (by omega) (by omega), by omega⟩ hS dL_does_409
    by_cases k_29_7 : lowA v 18 = 7
    · refine x_tabIn (k := 7) (off := 381) (tgt := 410) hx hb dL_does_29 k_29_7 (by decide) (by decide) (by decide) rfl (by decide) ?_
      refine lv_iload_n hx hb dL_does_410 rfl (lv_at hl 1 rfl) ?_
      refine x_if_ne (tgt := 418) hx hb dL_does_411 (by decide) (by omega) (fun c_411 => ?_) (fun c_411 => ?_)
      · exfalso; omega
      · refine x_iconst hx hb dL_does_414 ?_
        refine lv_goto (tgt := 426) hx hb dL_does_415 (by decide) ?_
        refine lv_istore (lv' := [(13, .int (zI 0)), (4, .int (zI 0)), (3, .int (zI (τ 7))), (0, .ref (a 0)), (1, .int (zI v)), (2, .int (zI w))]) hx hb dL_does_426 hl (by decide) rfl (fun ls hl => ?_)
        refine lv_iload_n hx hb dL_does_428 rfl (lv_at hl 2 rfl) ?_
        refine x_if_ne (tgt := 436) hx hb dL_does_429 (by decide) (by omega) (fun c_429 => ?_) (fun c_429 => ?_)
        · exfalso; omega
        · refine x_iconst hx hb dL_does_432 ?_
          refine lv_goto (tgt := 444) hx hb dL_does_433 (by decide) ?_
          refine lv_istore (lv' := [(14, .int (zI 0)), (13, .int (zI 0)), (4, .int (zI 0)), (3, .int (zI (τ 7))), (0, .ref (a 0)), (1, .int (zI v)), (2, .int (zI w))]) hx hb dL_does_444 hl (by decide) rfl (fun ls hl => ?_)
          refine lv_iload_n hx hb dL_does_446 rfl (lv_at hl 5 rfl) ?_
          refine x_bipush hx hb dL_does_447 (by decide +kernel) ?_
          refine lv_ishr hx hb dL_does_449 ?_
          refine lv_topi (fun v_ ev_ => ?_)
          obtain ⟨u4, hu4, rfl⟩ : ∃ z : Int, (-2147483648 ≤ z ∧ z < 2147483648) ∧ v_ = zI z := ⟨v_.toInt, zI_rng v_, (zI_of v_).symm⟩
          clear ev_
          refine x_iconst hx hb dL_does_450 ?_
          refine lv_iand hx hb dL_does_451 ?_
          refine lv_topi (fun v_ ev_ => ?_)
          obtain ⟨u5, hu5, rfl⟩ : ∃ z : Int, (-2147483648 ≤ z ∧ z < 2147483648) ∧ v_ = zI z := ⟨v_.toInt, zI_rng v_, (zI_of v_).symm⟩
          clear ev_
          refine x_if_eq (tgt := 501) hx hb dL_does_452 (by decide) (by omega) (fun c_452 => ?_) (fun c_452 => ?_)
          · refine x_iconst hx hb dL_does_501 ?_
            refine lv_goto (tgt := 506) hx hb dL_does_502 (by decide) ?_
            exact x_zretM hx hb hr hlocks (by first | rfl | omega) (by exact Or.inr rfl) ⟨_, _, _, hW, by first | exact hG2 | exact GD_mono hG2 (by omega) (by omega) | exact GD_mono hG (by omega) (by omega), by omega⟩ hS dL_does_506
          · have hwe := wnT_e (k := 0) hme
            refine lv_aload_n hx hb dL_does_455 rfl (lv_at hl 4 rfl) ?_
            refine lv_iload hx hb dL_does_456 (lv_at hl 2 rfl) ?_
            by_cases z_458 : wnT τ 0 = 0
            · exfalso; omega
            · refine x_callVM (As := [.int (zI 0)]) (rest := []) S hK (p_tamper_bad l D cs a τ pd ln 0 (by first | exact hG | exact hG2) (by exact hI) (by first | exact hk | omega) (by omega)) (cwV 1 hts gL_does_X6_tamper rfl rfl rfl (by decide +kernel) ⟨(Nat.le_of_ble_eq_true rfl), (Nat.le_of_ble_eq_true rfl)⟩) (PW_rc hK hW) hW rfl hl.1 (Nat.le_of_ble_eq_true rfl) dL_does_458 ⟨Nat.zero_le _, Nat.zero_le _⟩ hS (fun q hq => hq) (fun H locs hB hF hS => ?_)
              have hW : PW D cs a τ pd ln H := hB
              refine lv_iload_n hx hb dL_does_461 rfl (lv_at hl 3 rfl) ?_
              refine x_if_ne (tgt := 469) hx hb dL_does_462 (by decide) (by omega) (fun c_462 => ?_) (fun c_462 => ?_)
              · exfalso; omega
              · refine x_iconst hx hb dL_does_465 ?_
                refine lv_goto (tgt := 482) hx hb dL_does_466 (by decide) ?_
                refine x_icmp_neE (tgt := 505) hx hb dL_does_482 (by decide) (by omega) ?_
                refine lv_iload_n hx hb dL_does_485 rfl (lv_at hl 3 rfl) ?_
                refine x_if_eq (tgt := 501) hx hb dL_does_486 (by decide) (by omega) (fun c_486 => ?_) (fun c_486 => ?_)
                · refine x_iconst hx hb dL_does_501 ?_
                  refine lv_goto (tgt := 506) hx hb dL_does_502 (by decide) ?_
                  exact x_zretM hx hb hr hlocks (by first | rfl | omega) (by exact Or.inr rfl) ⟨_, _, _, hW, by first | exact hG2 | exact GD_mono hG2 (by omega) (by omega) | exact GD_mono hG (by omega) (by omega), by omega⟩ hS dL_does_506
                · exfalso; omega
    by_cases k_29_8 : lowA v 18 = 8
    · refine x_tabIn (k := 8) (off := 478) (tgt := 507) hx hb dL_does_29 k_29_8 (by decide) (by decide) (by decide) rfl (by decide) ?_
      refine lv_iload_n hx hb dL_does_507 rfl (lv_at hl 1 rfl) ?_
      refine x_if_ne (tgt := 528) hx hb dL_does_508 (by decide) (by omega) (fun c_508 => ?_) (fun c_508 => ?_)
      · exfalso; omega
      · refine lv_aload_n hx hb dL_does_511 rfl (lv_at hl 2 rfl) ?_
        refine x_iconst hx hb dL_does_512 ?_
        refine x_callVM (As := [.int (zI 0)]) (rest := []) S hK (p_visit_bad l D cs a τ pd ln 0 (by first | exact hG | exact hG2) (by exact hI) (by first | exact hk | omega) (by omega)) (cwV 1 hts gL_does_X6_visit rfl rfl rfl (by decide +kernel) ⟨(Nat.le_of_ble_eq_true rfl), (Nat.le_of_ble_eq_true rfl)⟩) (PW_rc hK hW) hW rfl hl.1 (Nat.le_of_ble_eq_true rfl) dL_does_513 ⟨Nat.zero_le _, Nat.zero_le _⟩ hS (fun q hq => hq) (fun H locs hB hF hS => ?_)
        have hW : PW D cs a τ pd ln H := hB
        refine x_iconst hx hb dL_does_516 ?_
        refine x_icmp_ne (tgt := 524) hx hb dL_does_517 (by decide) (by decide) (by decide) (fun q => absurd q (by decide)) (fun _ => ?_)
        refine x_iconst hx hb dL_does_520 ?_
        refine lv_goto (tgt := 534) hx hb dL_does_521 (by decide) ?_
        exact x_zretM hx hb hr hlocks (by first | rfl | omega) (by exact Or.inr rfl) ⟨_, _, _, hW, by first | exact hG2 | exact GD_mono hG2 (by omega) (by omega) | exact GD_mono hG (by omega) (by omega), by omega⟩ hS dL_does_534
    by_cases k_29_9 : lowA v 18 = 9
    · refine x_tabIn (k := 9) (off := 478) (tgt := 507) hx hb dL_does_29 k_29_9 (by decide) (by decide) (by decide) rfl (by decide) ?_
      refine lv_iload_n hx hb dL_does_507 rfl (lv_at hl 1 rfl) ?_
      refine x_if_ne (tgt := 528) hx hb dL_does_508 (by decide) (by omega) (fun c_508 => ?_) (fun c_508 => ?_)
      · exfalso; omega
      · refine lv_aload_n hx hb dL_does_511 rfl (lv_at hl 2 rfl) ?_
        refine x_iconst hx hb dL_does_512 ?_
        refine x_callVM (As := [.int (zI 0)]) (rest := []) S hK (p_visit_bad l D cs a τ pd ln 0 (by first | exact hG | exact hG2) (by exact hI) (by first | exact hk | omega) (by omega)) (cwV 1 hts gL_does_X6_visit rfl rfl rfl (by decide +kernel) ⟨(Nat.le_of_ble_eq_true rfl), (Nat.le_of_ble_eq_true rfl)⟩) (PW_rc hK hW) hW rfl hl.1 (Nat.le_of_ble_eq_true rfl) dL_does_513 ⟨Nat.zero_le _, Nat.zero_le _⟩ hS (fun q hq => hq) (fun H locs hB hF hS => ?_)
        have hW : PW D cs a τ pd ln H := hB
        refine x_iconst hx hb dL_does_516 ?_
        refine x_icmp_ne (tgt := 524) hx hb dL_does_517 (by decide) (by decide) (by decide) (fun q => absurd q (by decide)) (fun _ => ?_)
        refine x_iconst hx hb dL_does_520 ?_
        refine lv_goto (tgt := 534) hx hb dL_does_521 (by decide) ?_
        exact x_zretM hx hb hr hlocks (by first | rfl | omega) (by exact Or.inr rfl) ⟨_, _, _, hW, by first | exact hG2 | exact GD_mono hG2 (by omega) (by omega) | exact GD_mono hG (by omega) (by omega), by omega⟩ hS dL_does_534
    by_cases k_29_10 : lowA v 18 = 10
    · refine x_tabIn (k := 10) (off := 506) (tgt := 535) hx hb dL_does_29 k_29_10 (by decide) (by decide) (by decide) rfl (by decide) ?_
      refine lv_iload_n hx hb dL_does_535 rfl (lv_at hl 3 rfl) ?_
      refine x_iconst hx hb dL_does_536 ?_
      refine lv_ishr hx hb dL_does_537 ?_
      refine lv_topi (fun v_ ev_ => ?_)
      obtain ⟨u6, hu6, rfl⟩ : ∃ z : Int, (-2147483648 ≤ z ∧ z < 2147483648) ∧ v_ = zI z := ⟨v_.toInt, zI_rng v_, (zI_of v_).symm⟩
      clear ev_
      refine x_bipush hx hb dL_does_538 (by decide +kernel) ?_
      refine x_callSR (As := [.int (zI u6), .int (zI 6)]) (rest := []) S hK (l_low l D cs u6 6 (by omega)) (va_cwS 2 hts gL_does_L_low rfl rfl rfl (by decide +kernel) ⟨(Nat.le_of_ble_eq_true rfl), (Nat.le_of_ble_eq_true rfl)⟩) trivial rfl hl.1 (Nat.le_of_ble_eq_true rfl) dL_does_540 ⟨Nat.zero_le _, Nat.zero_le _⟩ ?_
      have hsx := lowA_rng u6 (nn := 6) (by decide)
      refine lv_istore (lv' := [(15, .int (zI (lowA u6 6))), (4, .int (zI 0)), (3, .int (zI (τ 7))), (0, .ref (a 0)), (1, .int (zI v)), (2, .int (zI w))]) hx hb dL_does_543 hl (by decide) rfl (fun ls hl => ?_)
      refine lv_iload hx hb dL_does_545 (lv_at hl 0 rfl) ?_
      refine x_iconst hx hb dL_does_547 ?_
      refine x_icmp_ne (tgt := 560) hx hb dL_does_548 (by decide) (by omega) (by omega) (fun c_548 => ?_) (fun c_548 => ?_)
      · refine lv_iload hx hb dL_does_560 (lv_at hl 0 rfl) ?_
        refine x_iconst hx hb dL_does_562 ?_
        refine x_icmp_ne (tgt := 574) hx hb dL_does_563 (by decide) (by omega) (by omega) (fun c_563 => ?_) (fun c_563 => ?_)
        · refine lv_iload hx hb dL_does_574 (lv_at hl 0 rfl) ?_
          refine x_iconst hx hb dL_does_576 ?_
          refine x_icmp_ne (tgt := 593) hx hb dL_does_577 (by decide) (by omega) (by omega) (fun c_577 => ?_) (fun c_577 => ?_)
          · refine lv_iload_n hx hb dL_does_593 rfl (lv_at hl 5 rfl) ?_
            refine x_bipush hx hb dL_does_594 (by decide +kernel) ?_
            refine x_callSR (As := [.int (zI w), .int (zI 100)]) (rest := []) S hK (l_low l D cs w 100 (by omega)) (va_cwS 2 hts gL_does_L_low rfl rfl rfl (by decide +kernel) ⟨(Nat.le_of_ble_eq_true rfl), (Nat.le_of_ble_eq_true rfl)⟩) trivial rfl hl.1 (Nat.le_of_ble_eq_true rfl) dL_does_596 ⟨Nat.zero_le _, Nat.zero_le _⟩ ?_
            refine lv_istore (lv' := [(16, .int (zI (lowA w 100))), (15, .int (zI (lowA u6 6))), (4, .int (zI 0)), (3, .int (zI (τ 7))), (0, .ref (a 0)), (1, .int (zI v)), (2, .int (zI w))]) hx hb dL_does_599 hl (by decide) rfl (fun ls hl => ?_)
            have hs : setOK (lowA u6 6) (lowA w 100) := by have q1 := lowA_rng w (nn := 10) (by decide); have q2 := lowA_rng w (nn := 2) (by decide); have q3 := lowA_rng w (nn := 900) (by decide); have q4 := lowA_rng w (nn := 100) (by decide); exact set_ok (by omega) (by omega) (by omega) (by omega) (by omega)
            obtain ⟨hG2, ⟨e7, e6⟩, ev⟩ := st_all hG hs
            refine lv_aload_n hx hb dL_does_601 rfl (lv_at hl 4 rfl) ?_
            refine x_bipush hx hb dL_does_602 (by decide +kernel) ?_
            refine lv_iload hx hb dL_does_604 (lv_at hl 1 rfl) ?_
            refine x_iadd hx hb dL_does_606 ?_
            refine x_callVR (As := [.int (zI (9 + (lowA u6 6)))]) (rest := []) S hK (p_count_s l D cs a τ pd ln ((lowA u6 6)) (by first | exact hG | exact hG2) (by omega)) (cwV 1 hts gL_does_X6_count rfl rfl rfl (by decide +kernel) ⟨(Nat.le_of_ble_eq_true rfl), (Nat.le_of_ble_eq_true rfl)⟩) (PW_rc hK hW) hW rfl hl.1 (Nat.le_of_ble_eq_true rfl) dL_does_607 ⟨Nat.zero_le _, Nat.zero_le _⟩ ?_
            refine lv_istore (lv' := [(17, .int (zI (τ ((lowA u6 6))))), (16, .int (zI (lowA w 100))), (15, .int (zI (lowA u6 6))), (4, .int (zI 0)), (3, .int (zI (τ 7))), (0, .ref (a 0)), (1, .int (zI v)), (2, .int (zI w))]) hx hb dL_does_610 hl (by decide) rfl (fun ls hl => ?_)
            refine lv_aload_n hx hb dL_does_612 rfl (lv_at hl 5 rfl) ?_
            refine lv_iload hx hb dL_does_613 (lv_at hl 2 rfl) ?_
            refine lv_iload hx hb dL_does_615 (lv_at hl 1 rfl) ?_
            refine x_callVMz (As := [.int (zI (lowA u6 6)), .int (zI (lowA w 100))]) (rest := []) S hK (kZ.keptS hZ hS hN) (p_set l D cs a τ pd ln (lowA u6 6) (lowA w 100) _ (by first | exact hG | exact hG2) (by exact hI) (by exact hs) (by exact hN)) (cwV 2 hts gL_does_X6_set rfl rfl rfl (by decide +kernel) ⟨(Nat.le_of_ble_eq_true rfl), (Nat.le_of_ble_eq_true rfl)⟩) (PW_rc hK hW) hW rfl hl.1 (Nat.le_of_ble_eq_true rfl) dL_does_617 ⟨Nat.zero_le _, Nat.zero_le _⟩ hS (fun q hq => hq) (fun H locs hB hF hS => ?_)
            have hW : PW D cs a (up τ (lowA u6 6) (lowA w 100)) pd ln H := hB
            refine lv_iload hx hb dL_does_620 (lv_at hl 0 rfl) ?_
            refine x_icmp_neE (tgt := 643) hx hb dL_does_622 (by decide) (by omega) ?_
            refine lv_aload_n hx hb dL_does_625 rfl (lv_at hl 5 rfl) ?_
            refine x_bipush hx hb dL_does_626 (by decide +kernel) ?_
            refine lv_iload hx hb dL_does_628 (lv_at hl 2 rfl) ?_
            refine x_iadd hx hb dL_does_630 ?_
            refine x_callVR (As := [.int (zI (9 + (lowA u6 6)))]) (rest := []) S hK (p_count_s l D cs a (up τ (lowA u6 6) (lowA w 100)) pd ln ((lowA u6 6)) (by first | exact hG | exact hG2) (by omega)) (cwV 1 hts gL_does_X6_count rfl rfl rfl (by decide +kernel) ⟨(Nat.le_of_ble_eq_true rfl), (Nat.le_of_ble_eq_true rfl)⟩) (PW_rc hK hW) hW rfl hl.1 (Nat.le_of_ble_eq_true rfl) dL_does_631 ⟨Nat.zero_le _, Nat.zero_le _⟩ ?_
            refine lv_iload hx hb dL_does_634 (lv_at hl 1 rfl) ?_
            refine x_icmp_neE (tgt := 643) hx hb dL_does_636 (by decide) (by exact ev) ?_
            refine x_iconst hx hb dL_does_639 ?_
            refine lv_goto (tgt := 644) hx hb dL_does_640 (by decide) ?_
            exact x_zretM hx hb hr hlocks (by first | rfl | omega) (by exact Or.inr rfl) ⟨_, _, _, hW, by first | exact hG2 | exact GD_mono hG2 (by omega) (by omega) | exact GD_mono hG (by omega) (by omega), by omega⟩ hS dL_does_644
          · refine x_bipush hx hb dL_does_580 (by decide +kernel) ?_
            refine lv_iload_n hx hb dL_does_582 rfl (lv_at hl 5 rfl) ?_
            refine x_sipush hx hb dL_does_583 (by decide +kernel) ?_
            refine x_callSR (As := [.int (zI w), .int (zI 900)]) (rest := [.int (zI 100)]) S hK (l_low l D cs w 900 (by omega)) (va_cwS 2 hts gL_does_L_low rfl rfl rfl (by decide +kernel) ⟨(Nat.le_of_ble_eq_true rfl), (Nat.le_of_ble_eq_true rfl)⟩) trivial rfl hl.1 (Nat.le_of_ble_eq_true rfl) dL_does_586 ⟨Nat.zero_le _, Nat.zero_le _⟩ ?_
            refine x_iadd hx hb dL_does_589 ?_
            refine lv_goto (tgt := 599) hx hb dL_does_590 (by decide) ?_
            refine lv_istore (lv' := [(16, .int (zI (100 + (lowA w 900)))), (15, .int (zI (lowA u6 6))), (4, .int (zI 0)), (3, .int (zI (τ 7))), (0, .ref (a 0)), (1, .int (zI v)), (2, .int (zI w))]) hx hb dL_does_599 hl (by decide) rfl (fun ls hl => ?_)
            have hs : setOK (lowA u6 6) (100 + (lowA w 900)) := by have q1 := lowA_rng w (nn := 10) (by decide); have q2 := lowA_rng w (nn := 2) (by decide); have q3 := lowA_rng w (nn := 900) (by decide); have q4 := lowA_rng w (nn := 100) (by decide); exact set_ok (by omega) (by omega) (by omega) (by omega) (by omega)
            obtain ⟨hG2, ⟨e7, e6⟩, ev⟩ := st_all hG hs
            refine lv_aload_n hx hb dL_does_601 rfl (lv_at hl 4 rfl) ?_
            refine x_bipush hx hb dL_does_602 (by decide +kernel) ?_
            refine lv_iload hx hb dL_does_604 (lv_at hl 1 rfl) ?_
            refine x_iadd hx hb dL_does_606 ?_
            refine x_callVR (As := [.int (zI (9 + (lowA u6 6)))]) (rest := []) S hK (p_count_s l D cs a τ pd ln ((lowA u6 6)) (by first | exact hG | exact hG2) (by omega)) (cwV 1 hts gL_does_X6_count rfl rfl rfl (by decide +kernel) ⟨(Nat.le_of_ble_eq_true rfl), (Nat.le_of_ble_eq_true rfl)⟩) (PW_rc hK hW) hW rfl hl.1 (Nat.le_of_ble_eq_true rfl) dL_does_607 ⟨Nat.zero_le _, Nat.zero_le _⟩ ?_
            refine lv_istore (lv' := [(17, .int (zI (τ ((lowA u6 6))))), (16, .int (zI (100 + (lowA w 900)))), (15, .int (zI (lowA u6 6))), (4, .int (zI 0)), (3, .int (zI (τ 7))), (0, .ref (a 0)), (1, .int (zI v)), (2, .int (zI w))]) hx hb dL_does_610 hl (by decide) rfl (fun ls hl => ?_)
            refine lv_aload_n hx hb dL_does_612 rfl (lv_at hl 5 rfl) ?_
            refine lv_iload hx hb dL_does_613 (lv_at hl 2 rfl) ?_
            refine lv_iload hx hb dL_does_615 (lv_at hl 1 rfl) ?_
            refine x_callVMz (As := [.int (zI (lowA u6 6)), .int (zI (100 + (lowA w 900)))]) (rest := []) S hK (kZ.keptS hZ hS hN) (p_set l D cs a τ pd ln (lowA u6 6) (100 + (lowA w 900)) _ (by first | exact hG | exact hG2) (by exact hI) (by exact hs) (by exact hN)) (cwV 2 hts gL_does_X6_set rfl rfl rfl (by decide +kernel) ⟨(Nat.le_of_ble_eq_true rfl), (Nat.le_of_ble_eq_true rfl)⟩) (PW_rc hK hW) hW rfl hl.1 (Nat.le_of_ble_eq_true rfl) dL_does_617 ⟨Nat.zero_le _, Nat.zero_le _⟩ hS (fun q hq => hq) (fun H locs hB hF hS => ?_)
            have hW : PW D cs a (up τ (lowA u6 6) (100 + (lowA w 900))) pd ln H := hB
            refine lv_iload hx hb dL_does_620 (lv_at hl 0 rfl) ?_
            refine x_icmp_neE (tgt := 643) hx hb dL_does_622 (by decide) (by omega) ?_
            refine lv_aload_n hx hb dL_does_625 rfl (lv_at hl 5 rfl) ?_
            refine x_bipush hx hb dL_does_626 (by decide +kernel) ?_
            refine lv_iload hx hb dL_does_628 (lv_at hl 2 rfl) ?_
            refine x_iadd hx hb dL_does_630 ?_
            refine x_callVR (As := [.int (zI (9 + (lowA u6 6)))]) (rest := []) S hK (p_count_s l D cs a (up τ (lowA u6 6) (100 + (lowA w 900))) pd ln ((lowA u6 6)) (by first | exact hG | exact hG2) (by omega)) (cwV 1 hts gL_does_X6_count rfl rfl rfl (by decide +kernel) ⟨(Nat.le_of_ble_eq_true rfl), (Nat.le_of_ble_eq_true rfl)⟩) (PW_rc hK hW) hW rfl hl.1 (Nat.le_of_ble_eq_true rfl) dL_does_631 ⟨Nat.zero_le _, Nat.zero_le _⟩ ?_
            refine lv_iload hx hb dL_does_634 (lv_at hl 1 rfl) ?_
            refine x_icmp_neE (tgt := 643) hx hb dL_does_636 (by decide) (by exact ev) ?_
            refine x_iconst hx hb dL_does_639 ?_
            refine lv_goto (tgt := 644) hx hb dL_does_640 (by decide) ?_
            exact x_zretM hx hb hr hlocks (by first | rfl | omega) (by exact Or.inr rfl) ⟨_, _, _, hW, by first | exact hG2 | exact GD_mono hG2 (by omega) (by omega) | exact GD_mono hG (by omega) (by omega), by omega⟩ hS dL_does_644
        · refine lv_iload_n hx hb dL_does_566 rfl (lv_at hl 5 rfl) ?_
          refine x_iconst hx hb dL_does_567 ?_
          refine x_callSR (As := [.int (zI w), .int (zI 2)]) (rest := []) S hK (l_low l D cs w 2 (by omega)) (va_cwS 2 hts gL_does_L_low rfl rfl rfl (by decide +kernel) ⟨(Nat.le_of_ble_eq_true rfl), (Nat.le_of_ble_eq_true rfl)⟩) trivial rfl hl.1 (Nat.le_of_ble_eq_true rfl) dL_does_568 ⟨Nat.zero_le _, Nat.zero_le _⟩ ?_
          refine lv_goto (tgt := 599) hx hb dL_does_571 (by decide) ?_
          refine lv_istore (lv' := [(16, .int (zI (lowA w 2))), (15, .int (zI (lowA u6 6))), (4, .int (zI 0)), (3, .int (zI (τ 7))), (0, .ref (a 0)), (1, .int (zI v)), (2, .int (zI w))]) hx hb dL_does_599 hl (by decide) rfl (fun ls hl => ?_)
          have hs : setOK (lowA u6 6) (lowA w 2) := by have q1 := lowA_rng w (nn := 10) (by decide); have q2 := lowA_rng w (nn := 2) (by decide); have q3 := lowA_rng w (nn := 900) (by decide); have q4 := lowA_rng w (nn := 100) (by decide); exact set_ok (by omega) (by omega) (by omega) (by omega) (by omega)
          obtain ⟨hG2, ⟨e7, e6⟩, ev⟩ := st_all hG hs
          refine lv_aload_n hx hb dL_does_601 rfl (lv_at hl 4 rfl) ?_
          refine x_bipush hx hb dL_does_602 (by decide +kernel) ?_
          refine lv_iload hx hb dL_does_604 (lv_at hl 1 rfl) ?_
          refine x_iadd hx hb dL_does_606 ?_
          refine x_callVR (As := [.int (zI (9 + (lowA u6 6)))]) (rest := []) S hK (p_count_s l D cs a τ pd ln ((lowA u6 6)) (by first | exact hG | exact hG2) (by omega)) (cwV 1 hts gL_does_X6_count rfl rfl rfl (by decide +kernel) ⟨(Nat.le_of_ble_eq_true rfl), (Nat.le_of_ble_eq_true rfl)⟩) (PW_rc hK hW) hW rfl hl.1 (Nat.le_of_ble_eq_true rfl) dL_does_607 ⟨Nat.zero_le _, Nat.zero_le _⟩ ?_
          refine lv_istore (lv' := [(17, .int (zI (τ ((lowA u6 6))))), (16, .int (zI (lowA w 2))), (15, .int (zI (lowA u6 6))), (4, .int (zI 0)), (3, .int (zI (τ 7))), (0, .ref (a 0)), (1, .int (zI v)), (2, .int (zI w))]) hx hb dL_does_610 hl (by decide) rfl (fun ls hl => ?_)
          refine lv_aload_n hx hb dL_does_612 rfl (lv_at hl 5 rfl) ?_
          refine lv_iload hx hb dL_does_613 (lv_at hl 2 rfl) ?_
          refine lv_iload hx hb dL_does_615 (lv_at hl 1 rfl) ?_
          refine x_callVMz (As := [.int (zI (lowA u6 6)), .int (zI (lowA w 2))]) (rest := []) S hK (kZ.keptS hZ hS hN) (p_set l D cs a τ pd ln (lowA u6 6) (lowA w 2) _ (by first | exact hG | exact hG2) (by exact hI) (by exact hs) (by exact hN)) (cwV 2 hts gL_does_X6_set rfl rfl rfl (by decide +kernel) ⟨(Nat.le_of_ble_eq_true rfl), (Nat.le_of_ble_eq_true rfl)⟩) (PW_rc hK hW) hW rfl hl.1 (Nat.le_of_ble_eq_true rfl) dL_does_617 ⟨Nat.zero_le _, Nat.zero_le _⟩ hS (fun q hq => hq) (fun H locs hB hF hS => ?_)
          have hW : PW D cs a (up τ (lowA u6 6) (lowA w 2)) pd ln H := hB
          refine lv_iload hx hb dL_does_620 (lv_at hl 0 rfl) ?_
          refine x_icmp_neE (tgt := 643) hx hb dL_does_622 (by decide) (by omega) ?_
          refine lv_aload_n hx hb dL_does_625 rfl (lv_at hl 5 rfl) ?_
          refine x_bipush hx hb dL_does_626 (by decide +kernel) ?_
          refine lv_iload hx hb dL_does_628 (lv_at hl 2 rfl) ?_
          refine x_iadd hx hb dL_does_630 ?_
          refine x_callVR (As := [.int (zI (9 + (lowA u6 6)))]) (rest := []) S hK (p_count_s l D cs a (up τ (lowA u6 6) (lowA w 2)) pd ln ((lowA u6 6)) (by first | exact hG | exact hG2) (by omega)) (cwV 1 hts gL_does_X6_count rfl rfl rfl (by decide +kernel) ⟨(Nat.le_of_ble_eq_true rfl), (Nat.le_of_ble_eq_true rfl)⟩) (PW_rc hK hW) hW rfl hl.1 (Nat.le_of_ble_eq_true rfl) dL_does_631 ⟨Nat.zero_le _, Nat.zero_le _⟩ ?_
          refine lv_iload hx hb dL_does_634 (lv_at hl 1 rfl) ?_
          refine x_icmp_neE (tgt := 643) hx hb dL_does_636 (by decide) (by exact ev) ?_
          refine x_iconst hx hb dL_does_639 ?_
          refine lv_goto (tgt := 644) hx hb dL_does_640 (by decide) ?_
          exact x_zretM hx hb hr hlocks (by first | rfl | omega) (by exact Or.inr rfl) ⟨_, _, _, hW, by first | exact hG2 | exact GD_mono hG2 (by omega) (by omega) | exact GD_mono hG (by omega) (by omega), by omega⟩ hS dL_does_644
      · refine lv_iload_n hx hb dL_does_551 rfl (lv_at hl 5 rfl) ?_
        refine x_bipush hx hb dL_does_552 (by decide +kernel) ?_
        refine x_callSR (As := [.int (zI w), .int (zI 10)]) (rest := []) S hK (l_low l D cs w 10 (by omega)) (va_cwS 2 hts gL_does_L_low rfl rfl rfl (by decide +kernel) ⟨(Nat.le_of_ble_eq_true rfl), (Nat.le_of_ble_eq_true rfl)⟩) trivial rfl hl.1 (Nat.le_of_ble_eq_true rfl) dL_does_554 ⟨Nat.zero_le _, Nat.zero_le _⟩ ?_
        refine lv_goto (tgt := 599) hx hb dL_does_557 (by decide) ?_
        refine lv_istore (lv' := [(16, .int (zI (lowA w 10))), (15, .int (zI (lowA u6 6))), (4, .int (zI 0)), (3, .int (zI (τ 7))), (0, .ref (a 0)), (1, .int (zI v)), (2, .int (zI w))]) hx hb dL_does_599 hl (by decide) rfl (fun ls hl => ?_)
        have hs : setOK (lowA u6 6) (lowA w 10) := by have q1 := lowA_rng w (nn := 10) (by decide); have q2 := lowA_rng w (nn := 2) (by decide); have q3 := lowA_rng w (nn := 900) (by decide); have q4 := lowA_rng w (nn := 100) (by decide); exact set_ok (by omega) (by omega) (by omega) (by omega) (by omega)
        obtain ⟨hG2, ⟨e7, e6⟩, ev⟩ := st_all hG hs
        refine lv_aload_n hx hb dL_does_601 rfl (lv_at hl 4 rfl) ?_
        refine x_bipush hx hb dL_does_602 (by decide +kernel) ?_
        refine lv_iload hx hb dL_does_604 (lv_at hl 1 rfl) ?_
        refine x_iadd hx hb dL_does_606 ?_
        refine x_callVR (As := [.int (zI (9 + (lowA u6 6)))]) (rest := []) S hK (p_count_s l D cs a τ pd ln ((lowA u6 6)) (by first | exact hG | exact hG2) (by omega)) (cwV 1 hts gL_does_X6_count rfl rfl rfl (by decide +kernel) ⟨(Nat.le_of_ble_eq_true rfl), (Nat.le_of_ble_eq_true rfl)⟩) (PW_rc hK hW) hW rfl hl.1 (Nat.le_of_ble_eq_true rfl) dL_does_607 ⟨Nat.zero_le _, Nat.zero_le _⟩ ?_
        refine lv_istore (lv' := [(17, .int (zI (τ ((lowA u6 6))))), (16, .int (zI (lowA w 10))), (15, .int (zI (lowA u6 6))), (4, .int (zI 0)), (3, .int (zI (τ 7))), (0, .ref (a 0)), (1, .int (zI v)), (2, .int (zI w))]) hx hb dL_does_610 hl (by decide) rfl (fun ls hl => ?_)
        refine lv_aload_n hx hb dL_does_612 rfl (lv_at hl 5 rfl) ?_
        refine lv_iload hx hb dL_does_613 (lv_at hl 2 rfl) ?_
        refine lv_iload hx hb dL_does_615 (lv_at hl 1 rfl) ?_
        refine x_callVMz (As := [.int (zI (lowA u6 6)), .int (zI (lowA w 10))]) (rest := []) S hK (kZ.keptS hZ hS hN) (p_set l D cs a τ pd ln (lowA u6 6) (lowA w 10) _ (by first | exact hG | exact hG2) (by exact hI) (by exact hs) (by exact hN)) (cwV 2 hts gL_does_X6_set rfl rfl rfl (by decide +kernel) ⟨(Nat.le_of_ble_eq_true rfl), (Nat.le_of_ble_eq_true rfl)⟩) (PW_rc hK hW) hW rfl hl.1 (Nat.le_of_ble_eq_true rfl) dL_does_617 ⟨Nat.zero_le _, Nat.zero_le _⟩ hS (fun q hq => hq) (fun H locs hB hF hS => ?_)
        have hW : PW D cs a (up τ (lowA u6 6) (lowA w 10)) pd ln H := hB
        refine lv_iload hx hb dL_does_620 (lv_at hl 0 rfl) ?_
        refine x_icmp_neE (tgt := 643) hx hb dL_does_622 (by decide) (by omega) ?_
        refine lv_aload_n hx hb dL_does_625 rfl (lv_at hl 5 rfl) ?_
        refine x_bipush hx hb dL_does_626 (by decide +kernel) ?_
        refine lv_iload hx hb dL_does_628 (lv_at hl 2 rfl) ?_
        refine x_iadd hx hb dL_does_630 ?_
        refine x_callVR (As := [.int (zI (9 + (lowA u6 6)))]) (rest := []) S hK (p_count_s l D cs a (up τ (lowA u6 6) (lowA w 10)) pd ln ((lowA u6 6)) (by first | exact hG | exact hG2) (by omega)) (cwV 1 hts gL_does_X6_count rfl rfl rfl (by decide +kernel) ⟨(Nat.le_of_ble_eq_true rfl), (Nat.le_of_ble_eq_true rfl)⟩) (PW_rc hK hW) hW rfl hl.1 (Nat.le_of_ble_eq_true rfl) dL_does_631 ⟨Nat.zero_le _, Nat.zero_le _⟩ ?_
        refine lv_iload hx hb dL_does_634 (lv_at hl 1 rfl) ?_
        refine x_icmp_neE (tgt := 643) hx hb dL_does_636 (by decide) (by exact ev) ?_
        refine x_iconst hx hb dL_does_639 ?_
        refine lv_goto (tgt := 644) hx hb dL_does_640 (by decide) ?_
        exact x_zretM hx hb hr hlocks (by first | rfl | omega) (by exact Or.inr rfl) ⟨_, _, _, hW, by first | exact hG2 | exact GD_mono hG2 (by omega) (by omega) | exact GD_mono hG (by omega) (by omega), by omega⟩ hS dL_does_644
    by_cases k_29_11 : lowA v 18 = 11
    · refine x_tabIn (k := 11) (off := 616) (tgt := 645) hx hb dL_does_29 k_29_11 (by decide) (by decide) (by decide) rfl (by decide) ?_
      refine lv_iload_n hx hb dL_does_645 rfl (lv_at hl 1 rfl) ?_
      refine x_if_ne (tgt := 666) hx hb dL_does_646 (by decide) (by omega) (fun c_646 => ?_) (fun c_646 => ?_)
      · exfalso; omega
      · refine lv_aload_n hx hb dL_does_649 rfl (lv_at hl 2 rfl) ?_
        refine x_iconst hx hb dL_does_650 ?_
        refine x_callVR (As := [.int (zI 0)]) (rest := []) S hK (p_write_bad l D cs a τ pd ln 0 (by first | exact hG | exact hG2) (by first | exact hk | omega) (by omega)) (cwV 1 hts gL_does_X6_write rfl rfl rfl (by decide +kernel) ⟨(Nat.le_of_ble_eq_true rfl), (Nat.le_of_ble_eq_true rfl)⟩) (PW_rc hK hW) hW rfl hl.1 (Nat.le_of_ble_eq_true rfl) dL_does_651 ⟨Nat.zero_le _, Nat.zero_le _⟩ ?_
        refine x_iconst hx hb dL_does_654 ?_
        refine x_icmp_ne (tgt := 662) hx hb dL_does_655 (by decide) (by decide) (by decide) (fun q => absurd q (by decide)) (fun _ => ?_)
        refine x_iconst hx hb dL_does_658 ?_
        refine lv_goto (tgt := 672) hx hb dL_does_659 (by decide) ?_
        exact x_zretM hx hb hr hlocks (by first | rfl | omega) (by exact Or.inr rfl) ⟨_, _, _, hW, by first | exact hG2 | exact GD_mono hG2 (by omega) (by omega) | exact GD_mono hG (by omega) (by omega), by omega⟩ hS dL_does_672
    refine x_tabOut (tgt := 673) hx hb dL_does_29 (by omega) (by omega) (by decide) ?_
    refine lv_aload_n hx hb dL_does_673 rfl (lv_at hl 2 rfl) ?_
    refine x_iconst hx hb dL_does_674 ?_
    refine lv_iload_n hx hb dL_does_675 rfl (lv_at hl 4 rfl) ?_
    refine lv_iload_n hx hb dL_does_676 rfl (lv_at hl 3 rfl) ?_
    refine x_bipush hx hb dL_does_677 (by decide +kernel) ?_
    refine lv_ishr hx hb dL_does_679 ?_
    refine lv_topi (fun v_ ev_ => ?_)
    obtain ⟨u7, hu7, rfl⟩ : ∃ z : Int, (-2147483648 ≤ z ∧ z < 2147483648) ∧ v_ = zI z := ⟨v_.toInt, zI_rng v_, (zI_of v_).symm⟩
    clear ev_
    refine x_iconst hx hb dL_does_680 ?_
    refine lv_iand hx hb dL_does_681 ?_
    refine lv_topi (fun v_ ev_ => ?_)
    obtain ⟨u8, hu8, rfl⟩ : ∃ z : Int, (-2147483648 ≤ z ∧ z < 2147483648) ∧ v_ = zI z := ⟨v_.toInt, zI_rng v_, (zI_of v_).symm⟩
    clear ev_
    refine x_if_ne (tgt := 691) hx hb dL_does_682 (by decide) (by omega) (fun c_682 => ?_) (fun c_682 => ?_)
    · refine x_bipush hx hb dL_does_691 (by decide +kernel) ?_
      refine x_callSR (As := [.int (zI w), .int (zI 20)]) (rest := [.int (zI 1), .ref (a 0)]) S hK (l_low l D cs w 20 (by omega)) (va_cwS 2 hts gL_does_L_low rfl rfl rfl (by decide +kernel) ⟨(Nat.le_of_ble_eq_true rfl), (Nat.le_of_ble_eq_true rfl)⟩) trivial rfl hl.1 (Nat.le_of_ble_eq_true rfl) dL_does_693 ⟨Nat.zero_le _, Nat.zero_le _⟩ ?_
      refine x_iadd hx hb dL_does_696 ?_
      have hmi : 1 ≤ 1 + (lowA w 20) ∧ 1 + (lowA w 20) ≤ 700 := by have q1 := lowA_rng w (nn := 700) (by decide); have q2 := lowA_rng w (nn := 20) (by decide); omega
      have hw0 := wnP_e (τ := τ) (w := 1 + (lowA w 20)) (by omega) (by omega)
      obtain ⟨hG2, e6, -⟩ := ps_el hG hw0
      refine lv_iload hx hb dL_does_697 (lv_at hl 0 rfl) ?_
      refine x_callSM (As := [.ref (a 0), .int (zI (1 + (lowA w 20))), .int (zI 0)]) (rest := []) S hK (l_passes l D cs a τ pd ln (1 + (lowA w 20)) 0 _ (by first | exact hG | exact hG2) (by exact hI) (by first | exact hw0 | omega) (by omega) (by omega)) (va_cwS 3 hts gL_does_L_passes rfl rfl rfl (by decide +kernel) ⟨(Nat.le_of_ble_eq_true rfl), (Nat.le_of_ble_eq_true rfl)⟩) hW rfl hl.1 (Nat.le_of_ble_eq_true rfl) dL_does_699 ⟨Nat.zero_le _, Nat.zero_le _⟩ hS (fun q hq => hq) (fun H locs hB hF hS => ?_)
      have hW : PW D cs a (elF τ (1 + (lowA w 20))) pd ln H := hB
      exact x_zretM hx hb hr hlocks (by first | rfl | omega) (by exact Or.inr rfl) ⟨_, _, _, hW, by first | exact hG2 | exact GD_mono hG2 (by omega) (by omega) | exact GD_mono hG (by omega) (by omega), by omega⟩ hS dL_does_702
    · refine x_sipush hx hb dL_does_685 (by decide +kernel) ?_
      refine lv_goto (tgt := 693) hx hb dL_does_688 (by decide) ?_
      refine x_callSR (As := [.int (zI w), .int (zI 700)]) (rest := [.int (zI 1), .ref (a 0)]) S hK (l_low l D cs w 700 (by omega)) (va_cwS 2 hts gL_does_L_low rfl rfl rfl (by decide +kernel) ⟨(Nat.le_of_ble_eq_true rfl), (Nat.le_of_ble_eq_true rfl)⟩) trivial rfl hl.1 (Nat.le_of_ble_eq_true rfl) dL_does_693 ⟨Nat.zero_le _, Nat.zero_le _⟩ ?_
      refine x_iadd hx hb dL_does_696 ?_
      have hmi : 1 ≤ 1 + (lowA w 700) ∧ 1 + (lowA w 700) ≤ 700 := by have q1 := lowA_rng w (nn := 700) (by decide); have q2 := lowA_rng w (nn := 20) (by decide); omega
      have hw0 := wnP_e (τ := τ) (w := 1 + (lowA w 700)) (by omega) (by omega)
      obtain ⟨hG2, e6, -⟩ := ps_el hG hw0
      refine lv_iload hx hb dL_does_697 (lv_at hl 0 rfl) ?_
      refine x_callSM (As := [.ref (a 0), .int (zI (1 + (lowA w 700))), .int (zI 0)]) (rest := []) S hK (l_passes l D cs a τ pd ln (1 + (lowA w 700)) 0 _ (by first | exact hG | exact hG2) (by exact hI) (by first | exact hw0 | omega) (by omega) (by omega)) (va_cwS 3 hts gL_does_L_passes rfl rfl rfl (by decide +kernel) ⟨(Nat.le_of_ble_eq_true rfl), (Nat.le_of_ble_eq_true rfl)⟩) hW rfl hl.1 (Nat.le_of_ble_eq_true rfl) dL_does_699 ⟨Nat.zero_le _, Nat.zero_le _⟩ hS (fun q hq => hq) (fun H locs hB hF hS => ?_)
      have hW : PW D cs a (elF τ (1 + (lowA w 700))) pd ln H := hB
      exact x_zretM hx hb hr hlocks (by first | rfl | omega) (by exact Or.inr rfl) ⟨_, _, _, hW, by first | exact hG2 | exact GD_mono hG2 (by omega) (by omega) | exact GD_mono hG (by omega) (by omega), by omega⟩ hS dL_does_702
