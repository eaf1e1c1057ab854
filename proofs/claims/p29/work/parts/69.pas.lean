set_option maxHeartbeats 40000000 in
set_option maxRecDepth 100000 in
theorem l_passes (l : Launch) (D : va_G) (cs : Nat → ClassId) (a : Int → Nat) (τ : Int → Int) (pd : Int → Int) (ln : Int) (w : Int) (k : Int) (N : Int) (hG : GD N τ) (hI : eI a) (hw : 1 ≤ w ∧ w ≤ 1000) (ht : τ 6 + w ≤ 99999) (hk0 : (τ 7 = 0) ∨ (0 ≤ k ∧ k < τ 7)) : kM D cs l yL_passes wsL_passes ({ frames := 6, cells := 0, slots := 0, locals := 142 } : Room) [.ref (a 0), .int (zI w), .int (zI k)] (fun H => PW D cs a τ pd ln H) (some (.int (zI 1))) (fun H => PW D cs a (elF τ w) pd ln H) (eC a) := by
  refine Met.ofW (cc := cL_passes) (maxL := 23) (ret := (some .boolean)) (by decide) rfl ?_
  intro p e s m args below meth c s₁ B hml hv
  obtain ⟨rfl, hK, hW⟩ := hv
  have hx := B.exec
  have hb := B.bytes
  have hr := B.returns
  have hts := atoms_spec (ws := wsL_passes) B.pre
  have hown : s.vm.findClass RL = some m.cls := findClass_of_methodNamed B.named
  have hlocks := B.notSynchronized
  have S : CallFix p m c cL_passes 23 s (([.ref (a 0), .int (zI w), .int (zI k)] : List Value)).toArray wsL_passes RL := ⟨hx, hb, hml, hown, hts⟩
  have hS : va_S (eC a) s.heap s.heap [] := va_S.rf
  have hl := lv_entry ([.ref (a 0), .int (zI w), .int (zI k)]) (n := 23) (Nat.le_of_ble_eq_true rfl)
  rw [lg_entry_eq]
  generalize (lg_sl ([.ref (a 0), .int (zI w), .int (zI k)]) ++ List.replicate (23 - (lg_sl ([.ref (a 0), .int (zI w), .int (zI k)])).length) Slot.unset).toArray = ls at hl ⊢
  have hl : lv_has ls 23 [(0, .ref (a 0)), (1, .int (zI w)), (2, .int (zI k))] := hl
  have h7 := gd_7 hG
  have h8 := gd_8 hG
  have h6 := gd_6 hG
  have h10 := gd_10 hG
  have hNn := hG.1
  have hw0 : wnP τ w = 0 := by unfold wnP; rw [if_neg (by omega), if_neg (by omega)]
  refine lv_aload_n hx hb dL_passes_0 rfl (lv_at hl 0 rfl) ?_
  refine x_iconst hx hb dL_passes_1 ?_
  refine x_callVR (As := [.int (zI 0)]) (rest := []) S hK (p_count_0 l D cs a τ pd ln (by first | exact hG | exact hG2)) (cwV 1 hts gL_passes_X6_count rfl rfl rfl (by decide +kernel) ⟨(Nat.le_of_ble_eq_true rfl), (Nat.le_of_ble_eq_true rfl)⟩) (PW_rc hK hW) hW rfl hl.1 (Nat.le_of_ble_eq_true rfl) dL_passes_2 ⟨Nat.zero_le _, Nat.zero_le _⟩ ?_
  refine lv_istore_n (lv' := [(3, .int (zI (τ 6))), (0, .ref (a 0)), (1, .int (zI w)), (2, .int (zI k))]) hx hb dL_passes_5 rfl hl (by decide) rfl (fun ls hl => ?_)
  refine lv_aload_n hx hb dL_passes_6 rfl (lv_at hl 1 rfl) ?_
  refine x_bipush hx hb dL_passes_7 (by decide +kernel) ?_
  refine x_callVR (As := [.int (zI 6)]) (rest := []) S hK (p_count_6 l D cs a τ pd ln (by first | exact hG | exact hG2)) (cwV 1 hts gL_passes_X6_count rfl rfl rfl (by decide +kernel) ⟨(Nat.le_of_ble_eq_true rfl), (Nat.le_of_ble_eq_true rfl)⟩) (PW_rc hK hW) hW rfl hl.1 (Nat.le_of_ble_eq_true rfl) dL_passes_9 ⟨Nat.zero_le _, Nat.zero_le _⟩ ?_
  refine lv_istore (lv' := [(4, .int (zI (trS τ (τ 7).toNat))), (3, .int (zI (τ 6))), (0, .ref (a 0)), (1, .int (zI w)), (2, .int (zI k))]) hx hb dL_passes_12 hl (by decide) rfl (fun ls hl => ?_)
  refine lv_aload_n hx hb dL_passes_14 rfl (lv_at hl 2 rfl) ?_
  refine x_iconst hx hb dL_passes_15 ?_
  refine x_callVR (As := [.int (zI 2)]) (rest := []) S hK (p_count_2 l D cs a τ pd ln (by first | exact hG | exact hG2)) (cwV 1 hts gL_passes_X6_count rfl rfl rfl (by decide +kernel) ⟨(Nat.le_of_ble_eq_true rfl), (Nat.le_of_ble_eq_true rfl)⟩) (PW_rc hK hW) hW rfl hl.1 (Nat.le_of_ble_eq_true rfl) dL_passes_16 ⟨Nat.zero_le _, Nat.zero_le _⟩ ?_
  refine x_if_ne (tgt := 56) hx hb dL_passes_19 (by decide) (by omega) (fun c_19 => ?_) (fun c_19 => ?_)
  · have hk : 0 ≤ k ∧ k < τ 7 := by omega
    have hm := gd_m hG hk
    have hkk := gd_k hG hk
    have hcp := cpow_rng (gd_g hG).1 k
    have hwk := wkA_r hG hk
    obtain ⟨hd0, hd1, hti, htr, hpa, hle⟩ := ps_wt hG hw0 hk
    refine lv_aload_n hx hb dL_passes_56 rfl (lv_at hl 2 rfl) ?_
    refine lv_iload_n hx hb dL_passes_57 rfl (lv_at hl 4 rfl) ?_
    refine lv_iload_n hx hb dL_passes_58 rfl (lv_at hl 3 rfl) ?_
    refine x_iconst hx hb dL_passes_59 ?_
    refine x_callVM (As := [.int (zI k), .int (zI w), .int (zI 0)]) (rest := []) S hK (p_wouldTurn_0 l D cs a τ pd ln k w (by first | exact hG | exact hG2) (by exact hI) (by first | exact hk | exact hk2) (by first | exact hw0 | omega)) (cwV 3 hts gL_passes_X6_wouldTurn rfl rfl rfl (by decide +kernel) ⟨(Nat.le_of_ble_eq_true rfl), (Nat.le_of_ble_eq_true rfl)⟩) (PW_rc hK hW) hW rfl hl.1 (Nat.le_of_ble_eq_true rfl) dL_passes_60 ⟨Nat.zero_le _, Nat.zero_le _⟩ hS (fun q hq => hq) (fun H locs hB hF hS => ?_)
    have hW : PW D cs a τ pd ln H := hB
    refine lv_istore (lv' := [(5, .int (zI (wtA τ k w 0))), (4, .int (zI (trS τ (τ 7).toNat))), (3, .int (zI (τ 6))), (0, .ref (a 0)), (1, .int (zI w)), (2, .int (zI k))]) hx hb dL_passes_63 hl (by decide) rfl (fun ls hl => ?_)
    refine lv_aload_n hx hb dL_passes_65 rfl (lv_at hl 3 rfl) ?_
    refine lv_iload_n hx hb dL_passes_66 rfl (lv_at hl 5 rfl) ?_
    refine lv_iload_n hx hb dL_passes_67 rfl (lv_at hl 4 rfl) ?_
    refine x_iconst hx hb dL_passes_68 ?_
    refine x_callVM (As := [.int (zI k), .int (zI w), .int (zI 1)]) (rest := []) S hK (p_wouldTurn_1 l D cs a τ pd ln k w (by first | exact hG | exact hG2) (by exact hI) (by first | exact hk | exact hk2) (by first | exact hw0 | omega)) (cwV 3 hts gL_passes_X6_wouldTurn rfl rfl rfl (by decide +kernel) ⟨(Nat.le_of_ble_eq_true rfl), (Nat.le_of_ble_eq_true rfl)⟩) (PW_rc hK hW) hW rfl hl.1 (Nat.le_of_ble_eq_true rfl) dL_passes_69 ⟨Nat.zero_le _, Nat.zero_le _⟩ hS (fun q hq => hq) (fun H locs hB hF hS => ?_)
    have hW : PW D cs a τ pd ln H := hB
    refine lv_istore (lv' := [(6, .int (zI (wtA τ k w 1))), (5, .int (zI (wtA τ k w 0))), (4, .int (zI (trS τ (τ 7).toNat))), (3, .int (zI (τ 6))), (0, .ref (a 0)), (1, .int (zI w)), (2, .int (zI k))]) hx hb dL_passes_72 hl (by decide) rfl (fun ls hl => ?_)
    refine lv_aload_n hx hb dL_passes_74 rfl (lv_at hl 4 rfl) ?_
    refine lv_iload_n hx hb dL_passes_75 rfl (lv_at hl 6 rfl) ?_
    refine x_iconst hx hb dL_passes_76 ?_
    refine x_callVR (As := [.int (zI k), .int (zI 4)]) (rest := []) S hK (p_of_4 l D cs a τ pd ln k (by first | exact hG | exact hG2) (by first | exact hk | exact hk2)) (cwV 2 hts gL_passes_X6_of rfl rfl rfl (by decide +kernel) ⟨(Nat.le_of_ble_eq_true rfl), (Nat.le_of_ble_eq_true rfl)⟩) (PW_rc hK hW) hW rfl hl.1 (Nat.le_of_ble_eq_true rfl) dL_passes_77 ⟨Nat.zero_le _, Nat.zero_le _⟩ ?_
    refine lv_istore (lv' := [(7, .int (zI (τ (11 + 13 * k + 3)))), (6, .int (zI (wtA τ k w 1))), (5, .int (zI (wtA τ k w 0))), (4, .int (zI (trS τ (τ 7).toNat))), (3, .int (zI (τ 6))), (0, .ref (a 0)), (1, .int (zI w)), (2, .int (zI k))]) hx hb dL_passes_80 hl (by decide) rfl (fun ls hl => ?_)
    refine lv_aload_n hx hb dL_passes_82 rfl (lv_at hl 5 rfl) ?_
    refine lv_iload_n hx hb dL_passes_83 rfl (lv_at hl 7 rfl) ?_
    refine x_iconst hx hb dL_passes_84 ?_
    refine x_callVR (As := [.int (zI k), .int (zI 5)]) (rest := []) S hK (p_of_5 l D cs a τ pd ln k (by first | exact hG | exact hG2) (by first | exact hk | exact hk2)) (cwV 2 hts gL_passes_X6_of rfl rfl rfl (by decide +kernel) ⟨(Nat.le_of_ble_eq_true rfl), (Nat.le_of_ble_eq_true rfl)⟩) (PW_rc hK hW) hW rfl hl.1 (Nat.le_of_ble_eq_true rfl) dL_passes_85 ⟨Nat.zero_le _, Nat.zero_le _⟩ ?_
    refine lv_istore (lv' := [(8, .int (zI (τ (11 + 13 * k + 4)))), (7, .int (zI (τ (11 + 13 * k + 3)))), (6, .int (zI (wtA τ k w 1))), (5, .int (zI (wtA τ k w 0))), (4, .int (zI (trS τ (τ 7).toNat))), (3, .int (zI (τ 6))), (0, .ref (a 0)), (1, .int (zI w)), (2, .int (zI k))]) hx hb dL_passes_88 hl (by decide) rfl (fun ls hl => ?_)
    refine lv_aload_n hx hb dL_passes_90 rfl (lv_at hl 6 rfl) ?_
    refine lv_iload_n hx hb dL_passes_91 rfl (lv_at hl 8 rfl) ?_
    refine x_callVM (As := [.int (zI k)]) (rest := []) S hK (p_turnsIn l D cs a τ pd ln k (by first | exact hG | exact hG2) (by exact hI) (by first | exact hk | exact hk2)) (cwV 1 hts gL_passes_X6_turnsIn rfl rfl rfl (by decide +kernel) ⟨(Nat.le_of_ble_eq_true rfl), (Nat.le_of_ble_eq_true rfl)⟩) (PW_rc hK hW) hW rfl hl.1 (Nat.le_of_ble_eq_true rfl) dL_passes_92 ⟨Nat.zero_le _, Nat.zero_le _⟩ hS (fun q hq => hq) (fun H locs hB hF hS => ?_)
    have hW : PW D cs a τ pd ln H := hB
    refine lv_istore (lv' := [(9, .int (zI (tinA τ k))), (8, .int (zI (τ (11 + 13 * k + 4)))), (7, .int (zI (τ (11 + 13 * k + 3)))), (6, .int (zI (wtA τ k w 1))), (5, .int (zI (wtA τ k w 0))), (4, .int (zI (trS τ (τ 7).toNat))), (3, .int (zI (τ 6))), (0, .ref (a 0)), (1, .int (zI w)), (2, .int (zI k))]) hx hb dL_passes_95 hl (by decide) rfl (fun ls hl => ?_)
    refine lv_aload_n hx hb dL_passes_97 rfl (lv_at hl 7 rfl) ?_
    refine lv_iload_n hx hb dL_passes_98 rfl (lv_at hl 9 rfl) ?_
    refine x_iconst hx hb dL_passes_99 ?_
    refine x_callVR (As := [.int (zI k), .int (zI 1)]) (rest := []) S hK (p_of_1 l D cs a τ pd ln k (by first | exact hG | exact hG2) (by first | exact hk | exact hk2)) (cwV 2 hts gL_passes_X6_of rfl rfl rfl (by decide +kernel) ⟨(Nat.le_of_ble_eq_true rfl), (Nat.le_of_ble_eq_true rfl)⟩) (PW_rc hK hW) hW rfl hl.1 (Nat.le_of_ble_eq_true rfl) dL_passes_100 ⟨Nat.zero_le _, Nat.zero_le _⟩ ?_
    refine lv_istore (lv' := [(10, .int (zI (cpow τ k))), (9, .int (zI (tinA τ k))), (8, .int (zI (τ (11 + 13 * k + 4)))), (7, .int (zI (τ (11 + 13 * k + 3)))), (6, .int (zI (wtA τ k w 1))), (5, .int (zI (wtA τ k w 0))), (4, .int (zI (trS τ (τ 7).toNat))), (3, .int (zI (τ 6))), (0, .ref (a 0)), (1, .int (zI w)), (2, .int (zI k))]) hx hb dL_passes_103 hl (by decide) rfl (fun ls hl => ?_)
    refine lv_aload_n hx hb dL_passes_105 rfl (lv_at hl 8 rfl) ?_
    refine lv_iload_n hx hb dL_passes_106 rfl (lv_at hl 10 rfl) ?_
    refine x_callVR (As := [.int (zI k)]) (rest := []) S hK (p_misses l D cs a τ pd ln k (by first | exact hG | exact hG2) (by first | exact hk | exact hk2)) (cwV 1 hts gL_passes_X6_misses rfl rfl rfl (by decide +kernel) ⟨(Nat.le_of_ble_eq_true rfl), (Nat.le_of_ble_eq_true rfl)⟩) (PW_rc hK hW) hW rfl hl.1 (Nat.le_of_ble_eq_true rfl) dL_passes_107 ⟨Nat.zero_le _, Nat.zero_le _⟩ ?_
    refine lv_lstore (lv' := [(11, .long (zL (msA τ k))), (10, .int (zI (cpow τ k))), (9, .int (zI (tinA τ k))), (8, .int (zI (τ (11 + 13 * k + 4)))), (7, .int (zI (τ (11 + 13 * k + 3)))), (6, .int (zI (wtA τ k w 1))), (5, .int (zI (wtA τ k w 0))), (4, .int (zI (trS τ (τ 7).toNat))), (3, .int (zI (τ 6))), (0, .ref (a 0)), (1, .int (zI w)), (2, .int (zI k))]) hx hb dL_passes_110 hl (by decide) rfl (fun ls hl => ?_)
    refine lv_aload_n hx hb dL_passes_112 rfl (lv_at hl 9 rfl) ?_
    refine lv_iload_n hx hb dL_passes_113 rfl (lv_at hl 11 rfl) ?_
    refine x_iconst hx hb dL_passes_114 ?_
    refine x_callVR (As := [.int (zI k), .int (zI 2)]) (rest := []) S hK (p_of_2 l D cs a τ pd ln k (by first | exact hG | exact hG2) (by first | exact hk | exact hk2)) (cwV 2 hts gL_passes_X6_of rfl rfl rfl (by decide +kernel) ⟨(Nat.le_of_ble_eq_true rfl), (Nat.le_of_ble_eq_true rfl)⟩) (PW_rc hK hW) hW rfl hl.1 (Nat.le_of_ble_eq_true rfl) dL_passes_115 ⟨Nat.zero_le _, Nat.zero_le _⟩ ?_
    refine lv_istore (lv' := [(13, .int (zI (τ (11 + 13 * k + 1)))), (11, .long (zL (msA τ k))), (10, .int (zI (cpow τ k))), (9, .int (zI (tinA τ k))), (8, .int (zI (τ (11 + 13 * k + 4)))), (7, .int (zI (τ (11 + 13 * k + 3)))), (6, .int (zI (wtA τ k w 1))), (5, .int (zI (wtA τ k w 0))), (4, .int (zI (trS τ (τ 7).toNat))), (3, .int (zI (τ 6))), (0, .ref (a 0)), (1, .int (zI w)), (2, .int (zI k))]) hx hb dL_passes_118 hl (by decide) rfl (fun ls hl => ?_)
    refine lv_aload_n hx hb dL_passes_120 rfl (lv_at hl 10 rfl) ?_
    refine lv_iload_n hx hb dL_passes_121 rfl (lv_at hl 12 rfl) ?_
    refine x_iconst hx hb dL_passes_122 ?_
    refine x_callVR (As := [.int (zI k), .int (zI 3)]) (rest := []) S hK (p_of_3 l D cs a τ pd ln k (by first | exact hG | exact hG2) (by first | exact hk | exact hk2)) (cwV 2 hts gL_passes_X6_of rfl rfl rfl (by decide +kernel) ⟨(Nat.le_of_ble_eq_true rfl), (Nat.le_of_ble_eq_true rfl)⟩) (PW_rc hK hW) hW rfl hl.1 (Nat.le_of_ble_eq_true rfl) dL_passes_123 ⟨Nat.zero_le _, Nat.zero_le _⟩ ?_
    refine lv_istore (lv' := [(14, .int (zI (τ (11 + 13 * k + 2)))), (13, .int (zI (τ (11 + 13 * k + 1)))), (11, .long (zL (msA τ k))), (10, .int (zI (cpow τ k))), (9, .int (zI (tinA τ k))), (8, .int (zI (τ (11 + 13 * k + 4)))), (7, .int (zI (τ (11 + 13 * k + 3)))), (6, .int (zI (wtA τ k w 1))), (5, .int (zI (wtA τ k w 0))), (4, .int (zI (trS τ (τ 7).toNat))), (3, .int (zI (τ 6))), (0, .ref (a 0)), (1, .int (zI w)), (2, .int (zI k))]) hx hb dL_passes_126 hl (by decide) rfl (fun ls hl => ?_)
    refine lv_aload_n hx hb dL_passes_128 rfl (lv_at hl 11 rfl) ?_
    refine lv_iload_n hx hb dL_passes_129 rfl (lv_at hl 13 rfl) ?_
    refine x_bipush hx hb dL_passes_130 (by decide +kernel) ?_
    refine x_callVR (As := [.int (zI k), .int (zI 10)]) (rest := []) S hK (p_of_10 l D cs a τ pd ln k (by first | exact hG | exact hG2) (by first | exact hk | exact hk2)) (cwV 2 hts gL_passes_X6_of rfl rfl rfl (by decide +kernel) ⟨(Nat.le_of_ble_eq_true rfl), (Nat.le_of_ble_eq_true rfl)⟩) (PW_rc hK hW) hW rfl hl.1 (Nat.le_of_ble_eq_true rfl) dL_passes_132 ⟨Nat.zero_le _, Nat.zero_le _⟩ ?_
    refine lv_istore (lv' := [(15, .int (zI (wkA τ k))), (14, .int (zI (τ (11 + 13 * k + 2)))), (13, .int (zI (τ (11 + 13 * k + 1)))), (11, .long (zL (msA τ k))), (10, .int (zI (cpow τ k))), (9, .int (zI (tinA τ k))), (8, .int (zI (τ (11 + 13 * k + 4)))), (7, .int (zI (τ (11 + 13 * k + 3)))), (6, .int (zI (wtA τ k w 1))), (5, .int (zI (wtA τ k w 0))), (4, .int (zI (trS τ (τ 7).toNat))), (3, .int (zI (τ 6))), (0, .ref (a 0)), (1, .int (zI w)), (2, .int (zI k))]) hx hb dL_passes_135 hl (by decide) rfl (fun ls hl => ?_)
    refine lv_aload_n hx hb dL_passes_137 rfl (lv_at hl 12 rfl) ?_
    refine lv_iload_n hx hb dL_passes_138 rfl (lv_at hl 14 rfl) ?_
    refine x_bipush hx hb dL_passes_139 (by decide +kernel) ?_
    refine x_callVR (As := [.int (zI k), .int (zI 8)]) (rest := []) S hK (p_of_8 l D cs a τ pd ln k (by first | exact hG | exact hG2) (by first | exact hk | exact hk2)) (cwV 2 hts gL_passes_X6_of rfl rfl rfl (by decide +kernel) ⟨(Nat.le_of_ble_eq_true rfl), (Nat.le_of_ble_eq_true rfl)⟩) (PW_rc hK hW) hW rfl hl.1 (Nat.le_of_ble_eq_true rfl) dL_passes_141 ⟨Nat.zero_le _, Nat.zero_le _⟩ ?_
    refine x_iconst hx hb dL_passes_144 ?_
    refine x_icmp_ne (tgt := 152) hx hb dL_passes_145 (by decide) (by omega) (by omega) (fun c_145 => ?_) (fun c_145 => ?_)
    · refine x_iconst hx hb dL_passes_152 ?_
      refine lv_istore (lv' := [(16, .int (zI 0)), (15, .int (zI (wkA τ k))), (14, .int (zI (τ (11 + 13 * k + 2)))), (13, .int (zI (τ (11 + 13 * k + 1)))), (11, .long (zL (msA τ k))), (10, .int (zI (cpow τ k))), (9, .int (zI (tinA τ k))), (8, .int (zI (τ (11 + 13 * k + 4)))), (7, .int (zI (τ (11 + 13 * k + 3)))), (6, .int (zI (wtA τ k w 1))), (5, .int (zI (wtA τ k w 0))), (4, .int (zI (trS τ (τ 7).toNat))), (3, .int (zI (τ 6))), (0, .ref (a 0)), (1, .int (zI w)), (2, .int (zI k))]) hx hb dL_passes_153 hl (by decide) rfl (fun ls hl => ?_)
      refine lv_aload_n hx hb dL_passes_155 rfl (lv_at hl 13 rfl) ?_
      refine lv_iload_n hx hb dL_passes_156 rfl (lv_at hl 14 rfl) ?_
      obtain ⟨hG2, e6, e7, eT, eL0, eL1, eL2⟩ := ps_el hG hw0
      obtain ⟨e3, e4, eW, eMS⟩ := ps_k hG hw0 hk
      obtain ⟨eNN, fS, fG, fC⟩ := wen_all hG hw0 hk
      have hk2 : 0 ≤ k ∧ k < elF τ w 7 := by omega
      have hm2 := gd_m hG2 hk2
      have hss := gd_s hG
      refine x_callVM (As := [.int (zI w)]) (rest := []) S hK (p_pass l D cs a τ pd ln w (by first | exact hG | exact hG2) (by exact hI) (by first | exact hw0 | omega)) (cwV 1 hts gL_passes_X6_pass rfl rfl rfl (by decide +kernel) ⟨(Nat.le_of_ble_eq_true rfl), (Nat.le_of_ble_eq_true rfl)⟩) (PW_rc hK hW) hW rfl hl.1 (Nat.le_of_ble_eq_true rfl) dL_passes_157 ⟨Nat.zero_le _, Nat.zero_le _⟩ hS (fun q hq => hq) (fun H locs hB hF hS => ?_)
      have hW : PW D cs a (elF τ w) pd ln H := hB
      refine lv_istore (lv' := [(17, .int (zI (pasA τ w))), (16, .int (zI 0)), (15, .int (zI (wkA τ k))), (14, .int (zI (τ (11 + 13 * k + 2)))), (13, .int (zI (τ (11 + 13 * k + 1)))), (11, .long (zL (msA τ k))), (10, .int (zI (cpow τ k))), (9, .int (zI (tinA τ k))), (8, .int (zI (τ (11 + 13 * k + 4)))), (7, .int (zI (τ (11 + 13 * k + 3)))), (6, .int (zI (wtA τ k w 1))), (5, .int (zI (wtA τ k w 0))), (4, .int (zI (trS τ (τ 7).toNat))), (3, .int (zI (τ 6))), (0, .ref (a 0)), (1, .int (zI w)), (2, .int (zI k))]) hx hb dL_passes_160 hl (by decide) rfl (fun ls hl => ?_)
      refine lv_iload hx hb dL_passes_162 (lv_at hl 0 rfl) ?_
      refine lv_iload hx hb dL_passes_164 (lv_at hl 11 rfl) ?_
      refine lv_iload hx hb dL_passes_166 (lv_at hl 10 rfl) ?_
      refine x_iadd hx hb dL_passes_168 ?_
      refine x_icmp_lt (tgt := 261) hx hb dL_passes_169 (by decide) (by omega) (by omega) (fun c_169 => ?_) (fun c_169 => ?_)
      · exfalso; omega
      · refine lv_aload_n hx hb dL_passes_172 rfl (lv_at hl 14 rfl) ?_
        refine x_bipush hx hb dL_passes_173 (by decide +kernel) ?_
        refine x_callVR (As := [.int (zI 6)]) (rest := []) S hK (p_count_6 l D cs a (elF τ w) pd ln (by first | exact hG | exact hG2)) (cwV 1 hts gL_passes_X6_count rfl rfl rfl (by decide +kernel) ⟨(Nat.le_of_ble_eq_true rfl), (Nat.le_of_ble_eq_true rfl)⟩) (PW_rc hK hW) hW rfl hl.1 (Nat.le_of_ble_eq_true rfl) dL_passes_175 ⟨Nat.zero_le _, Nat.zero_le _⟩ ?_
        refine lv_iload hx hb dL_passes_178 (lv_at hl 12 rfl) ?_
        refine lv_iload hx hb dL_passes_180 (lv_at hl 0 rfl) ?_
        refine x_iadd hx hb dL_passes_182 ?_
        refine x_icmp_neE (tgt := 261) hx hb dL_passes_183 (by decide) (by omega) ?_
        refine lv_aload_n hx hb dL_passes_186 rfl (lv_at hl 14 rfl) ?_
        refine lv_iload_n hx hb dL_passes_187 rfl (lv_at hl 16 rfl) ?_
        refine x_iconst hx hb dL_passes_188 ?_
        refine x_callVR (As := [.int (zI k), .int (zI 4)]) (rest := []) S hK (p_of_4 l D cs a (elF τ w) pd ln k (by first | exact hG | exact hG2) (by first | exact hk | exact hk2)) (cwV 2 hts gL_passes_X6_of rfl rfl rfl (by decide +kernel) ⟨(Nat.le_of_ble_eq_true rfl), (Nat.le_of_ble_eq_true rfl)⟩) (PW_rc hK hW) hW rfl hl.1 (Nat.le_of_ble_eq_true rfl) dL_passes_189 ⟨Nat.zero_le _, Nat.zero_le _⟩ ?_
        refine lv_iload hx hb dL_passes_192 (lv_at hl 9 rfl) ?_
        refine lv_iload hx hb dL_passes_194 (lv_at hl 11 rfl) ?_
        refine x_iadd hx hb dL_passes_196 ?_
        refine x_icmp_neE (tgt := 261) hx hb dL_passes_197 (by decide) (by omega) ?_
        refine lv_aload_n hx hb dL_passes_200 rfl (lv_at hl 14 rfl) ?_
        refine lv_iload_n hx hb dL_passes_201 rfl (lv_at hl 16 rfl) ?_
        refine x_iconst hx hb dL_passes_202 ?_
        refine x_callVR (As := [.int (zI k), .int (zI 5)]) (rest := []) S hK (p_of_5 l D cs a (elF τ w) pd ln k (by first | exact hG | exact hG2) (by first | exact hk | exact hk2)) (cwV 2 hts gL_passes_X6_of rfl rfl rfl (by decide +kernel) ⟨(Nat.le_of_ble_eq_true rfl), (Nat.le_of_ble_eq_true rfl)⟩) (PW_rc hK hW) hW rfl hl.1 (Nat.le_of_ble_eq_true rfl) dL_passes_203 ⟨Nat.zero_le _, Nat.zero_le _⟩ ?_
        refine lv_iload hx hb dL_passes_206 (lv_at hl 8 rfl) ?_
        refine lv_iload hx hb dL_passes_208 (lv_at hl 10 rfl) ?_
        refine x_iadd hx hb dL_passes_210 ?_
        refine x_icmp_neE (tgt := 261) hx hb dL_passes_211 (by decide) (by omega) ?_
        refine lv_iload hx hb dL_passes_214 (lv_at hl 11 rfl) ?_
        refine lv_iload hx hb dL_passes_216 (lv_at hl 10 rfl) ?_
        refine x_iadd hx hb dL_passes_218 ?_
        refine x_if_le (tgt := 226) hx hb dL_passes_219 (by decide) (by omega) (fun c_219 => ?_) (fun c_219 => ?_)
        · refine x_iconst hx hb dL_passes_226 ?_
          refine lv_iload hx hb dL_passes_227 (lv_at hl 7 rfl) ?_
          refine x_if_le (tgt := 242) hx hb dL_passes_229 (by decide) (by omega) (fun c_229 => ?_) (fun c_229 => ?_)
          · refine x_iconst hx hb dL_passes_242 ?_
            refine x_icmp_ne (tgt := 261) hx hb dL_passes_243 (by decide) (by decide) (by decide) (fun q => absurd q (by decide)) (fun _ => ?_)
            refine lv_aload_n hx hb dL_passes_246 rfl (lv_at hl 14 rfl) ?_
            refine x_iconst hx hb dL_passes_247 ?_
            refine x_callVR (As := [.int (zI 0)]) (rest := []) S hK (p_count_0 l D cs a (elF τ w) pd ln (by first | exact hG | exact hG2)) (cwV 1 hts gL_passes_X6_count rfl rfl rfl (by decide +kernel) ⟨(Nat.le_of_ble_eq_true rfl), (Nat.le_of_ble_eq_true rfl)⟩) (PW_rc hK hW) hW rfl hl.1 (Nat.le_of_ble_eq_true rfl) dL_passes_248 ⟨Nat.zero_le _, Nat.zero_le _⟩ ?_
            refine lv_iload_n hx hb dL_passes_251 rfl (lv_at hl 13 rfl) ?_
            refine lv_iload_n hx hb dL_passes_252 rfl (lv_at hl 15 rfl) ?_
            refine x_iadd hx hb dL_passes_253 ?_
            refine x_icmp_neE (tgt := 261) hx hb dL_passes_254 (by decide) (by omega) ?_
            refine x_iconst hx hb dL_passes_257 ?_
            refine lv_goto (tgt := 262) hx hb dL_passes_258 (by decide) ?_
            refine lv_istore (lv' := [(18, .int (zI 1)), (17, .int (zI (pasA τ w))), (16, .int (zI 0)), (15, .int (zI (wkA τ k))), (14, .int (zI (τ (11 + 13 * k + 2)))), (13, .int (zI (τ (11 + 13 * k + 1)))), (11, .long (zL (msA τ k))), (10, .int (zI (cpow τ k))), (9, .int (zI (tinA τ k))), (8, .int (zI (τ (11 + 13 * k + 4)))), (7, .int (zI (τ (11 + 13 * k + 3)))), (6, .int (zI (wtA τ k w 1))), (5, .int (zI (wtA τ k w 0))), (4, .int (zI (trS τ (τ 7).toNat))), (3, .int (zI (τ 6))), (0, .ref (a 0)), (1, .int (zI w)), (2, .int (zI k))]) hx hb dL_passes_262 hl (by decide) rfl (fun ls hl => ?_)
            clear hti htr hpa hle eT e3 e4 hkk h8 h10 e6 hk0 hw0
            refine x_ldc2 (v := 6000) hx hb hown (hts (.constantLong RL 48 (zL 6000)) (by decide +kernel)) dL_passes_264 ?_
            refine lv_iload hx hb dL_passes_267 (lv_at hl 12 rfl) ?_
            refine lv_iload hx hb dL_passes_269 (lv_at hl 11 rfl) ?_
            refine x_iadd hx hb dL_passes_271 ?_
            refine x_i2l hx hb (by omega) dL_passes_272 ?_
            refine x_lmul hx hb dL_passes_273 ?_
            refine lv_aload_n hx hb dL_passes_274 rfl (lv_at hl 15 rfl) ?_
            refine lv_iload_n hx hb dL_passes_275 rfl (lv_at hl 17 rfl) ?_
            refine x_iconst hx hb dL_passes_276 ?_
            refine x_callVR (As := [.int (zI k), .int (zI 2)]) (rest := [.long (zL (6000 * ((wtA τ k w 0) + (wtA τ k w 1))))]) S hK (p_of_2 l D cs a (elF τ w) pd ln k (by first | exact hG | exact hG2) (by first | exact hk | exact hk2)) (cwV 2 hts gL_passes_X6_of rfl rfl rfl (by decide +kernel) ⟨(Nat.le_of_ble_eq_true rfl), (Nat.le_of_ble_eq_true rfl)⟩) (PW_rc hK hW) hW rfl hl.1 (Nat.le_of_ble_eq_true rfl) dL_passes_277 ⟨Nat.zero_le _, Nat.zero_le _⟩ ?_
            refine x_i2l hx hb (by omega) dL_passes_280 ?_
            refine x_ladd hx hb dL_passes_281 ?_
            refine lv_iload hx hb dL_passes_282 (lv_at hl 5 rfl) ?_
            refine x_i2l hx hb (by omega) dL_passes_284 ?_
            refine x_lsub hx hb dL_passes_285 ?_
            refine lv_lstore (lv' := [(19, .long (zL (((6000 * ((wtA τ k w 0) + (wtA τ k w 1))) + ((elF τ w) (11 + 13 * k + 1))) - (τ (11 + 13 * k + 1))))), (18, .int (zI 1)), (17, .int (zI (pasA τ w))), (16, .int (zI 0)), (15, .int (zI (wkA τ k))), (14, .int (zI (τ (11 + 13 * k + 2)))), (13, .int (zI (τ (11 + 13 * k + 1)))), (11, .long (zL (msA τ k))), (10, .int (zI (cpow τ k))), (9, .int (zI (tinA τ k))), (8, .int (zI (τ (11 + 13 * k + 4)))), (7, .int (zI (τ (11 + 13 * k + 3)))), (6, .int (zI (wtA τ k w 1))), (5, .int (zI (wtA τ k w 0))), (4, .int (zI (trS τ (τ 7).toNat))), (3, .int (zI (τ 6))), (0, .ref (a 0)), (1, .int (zI w)), (2, .int (zI k))]) hx hb dL_passes_286 hl (by decide) rfl (fun ls hl => ?_)
            refine lv_iload hx hb dL_passes_288 (lv_at hl 1 rfl) ?_
            refine x_if_eq (tgt := 325) hx hb dL_passes_290 (by decide) (by decide) (fun q => absurd q (by decide)) (fun _ => ?_)
            refine lv_aload_n hx hb dL_passes_293 rfl (lv_at hl 16 rfl) ?_
            refine lv_iload_n hx hb dL_passes_294 rfl (lv_at hl 18 rfl) ?_
            refine x_callVR (As := [.int (zI k)]) (rest := []) S hK (p_misses l D cs a (elF τ w) pd ln k (by first | exact hG | exact hG2) (by first | exact hk | exact hk2)) (cwV 1 hts gL_passes_X6_misses rfl rfl rfl (by decide +kernel) ⟨(Nat.le_of_ble_eq_true rfl), (Nat.le_of_ble_eq_true rfl)⟩) (PW_rc hK hW) hW rfl hl.1 (Nat.le_of_ble_eq_true rfl) dL_passes_295 ⟨Nat.zero_le _, Nat.zero_le _⟩ ?_
            refine lv_lload hx hb dL_passes_298 (lv_at hl 7 rfl) ?_
            refine lv_iload hx hb dL_passes_300 (lv_at hl 8 rfl) ?_
            refine x_i2l hx hb (by omega) dL_passes_302 ?_
            refine lv_iload_n hx hb dL_passes_303 rfl (lv_at hl 17 rfl) ?_
            refine x_i2l hx hb (by omega) dL_passes_304 ?_
            refine x_lmul hx hb dL_passes_305 ?_
            refine x_ladd hx hb dL_passes_306 ?_
            refine lv_lload hx hb dL_passes_307 (lv_at hl 0 rfl) ?_
            refine x_lsub hx hb dL_passes_309 ?_
            refine x_lcmp_neE (tgt := 325) hx hb dL_passes_310 dL_passes_311 (by decide) (by omega) ?_
            refine lv_lload hx hb dL_passes_314 (lv_at hl 0 rfl) ?_
            refine x_lconst (v := 0) hx hb dL_passes_316 rfl ?_
            refine x_lcmp_lt (tgt := 325) hx hb dL_passes_317 dL_passes_318 (by decide) (by omega) (by omega) (fun c_317 => ?_) (fun c_317 => ?_)
            · exfalso; omega
            · refine x_iconst hx hb dL_passes_321 ?_
              refine lv_goto (tgt := 326) hx hb dL_passes_322 (by decide) ?_
              refine lv_istore (lv' := [(18, .int (zI 1)), (19, .long (zL (((6000 * ((wtA τ k w 0) + (wtA τ k w 1))) + ((elF τ w) (11 + 13 * k + 1))) - (τ (11 + 13 * k + 1))))), (17, .int (zI (pasA τ w))), (16, .int (zI 0)), (15, .int (zI (wkA τ k))), (14, .int (zI (τ (11 + 13 * k + 2)))), (13, .int (zI (τ (11 + 13 * k + 1)))), (11, .long (zL (msA τ k))), (10, .int (zI (cpow τ k))), (9, .int (zI (tinA τ k))), (8, .int (zI (τ (11 + 13 * k + 4)))), (7, .int (zI (τ (11 + 13 * k + 3)))), (6, .int (zI (wtA τ k w 1))), (5, .int (zI (wtA τ k w 0))), (4, .int (zI (trS τ (τ 7).toNat))), (3, .int (zI (τ 6))), (0, .ref (a 0)), (1, .int (zI w)), (2, .int (zI k))]) hx hb dL_passes_326 hl (by decide) rfl (fun ls hl => ?_)
              refine lv_iload hx hb dL_passes_328 (lv_at hl 8 rfl) ?_
              refine x_if_le (tgt := 344) hx hb dL_passes_330 (by decide) (by omega) (fun c_330 => ?_) (fun c_330 => ?_)
              · refine lv_iload hx hb dL_passes_344 (lv_at hl 8 rfl) ?_
                refine x_if_ne (tgt := 381) hx hb dL_passes_346 (by decide) (by omega) (fun c_346 => ?_) (fun c_346 => ?_)
                · exfalso; omega
                · refine lv_iload hx hb dL_passes_349 (lv_at hl 3 rfl) ?_
                  refine x_if_ne (tgt := 363) hx hb dL_passes_351 (by decide) (by decide) (fun q => absurd q (by decide)) (fun _ => ?_)
                  refine lv_aload_n hx hb dL_passes_354 rfl (lv_at hl 16 rfl) ?_
                  refine x_bipush hx hb dL_passes_355 (by decide +kernel) ?_
                  refine x_callVR (As := [.int (zI 10)]) (rest := []) S hK (p_count_10 l D cs a (elF τ w) pd ln (by first | exact hG | exact hG2)) (cwV 1 hts gL_passes_X6_count rfl rfl rfl (by decide +kernel) ⟨(Nat.le_of_ble_eq_true rfl), (Nat.le_of_ble_eq_true rfl)⟩) (PW_rc hK hW) hW rfl hl.1 (Nat.le_of_ble_eq_true rfl) dL_passes_357 ⟨Nat.zero_le _, Nat.zero_le _⟩ ?_
                  refine x_if_ne (tgt := 381) hx hb dL_passes_360 (by decide) (by omega) (fun c_360 => ?_) (fun c_360 => ?_)
                  · refine lv_iload hx hb dL_passes_381 (lv_at hl 8 rfl) ?_
                    refine x_if_le (tgt := 455) hx hb dL_passes_383 (by decide) (by omega) (fun c_383 => ?_) (fun c_383 => ?_)
                    · have fC2 := fC (by omega) c_145
                      have eC : elF τ w 1 * w = τ 1 * w := by rw [eL1]
                      have hcr : 0 ≤ τ 1 * w ∧ τ 1 * w ≤ 9 * 1000 := ⟨Int.mul_nonneg (by omega) (by omega), Int.mul_le_mul hss.2.1.2 hw.2 (by omega) (by omega)⟩
                      refine lv_iload hx hb dL_passes_455 (lv_at hl 0 rfl) ?_
                      refine x_if_eq (tgt := 529) hx hb dL_passes_457 (by decide) (by decide) (fun q => absurd q (by decide)) (fun _ => ?_)
                      refine lv_lload hx hb dL_passes_460 (lv_at hl 1 rfl) ?_
                      refine lv_aload_n hx hb dL_passes_462 rfl (lv_at hl 16 rfl) ?_
                      refine x_bipush hx hb dL_passes_463 (by decide +kernel) ?_
                      refine x_callVR (As := [.int (zI 10)]) (rest := [.long (zL (((6000 * ((wtA τ k w 0) + (wtA τ k w 1))) + ((elF τ w) (11 + 13 * k + 1))) - (τ (11 + 13 * k + 1))))]) S hK (p_count_10 l D cs a (elF τ w) pd ln (by first | exact hG | exact hG2)) (cwV 1 hts gL_passes_X6_count rfl rfl rfl (by decide +kernel) ⟨(Nat.le_of_ble_eq_true rfl), (Nat.le_of_ble_eq_true rfl)⟩) (PW_rc hK hW) hW rfl hl.1 (Nat.le_of_ble_eq_true rfl) dL_passes_465 ⟨Nat.zero_le _, Nat.zero_le _⟩ ?_
                      refine x_i2l hx hb (by omega) dL_passes_468 ?_
                      refine lv_iload_n hx hb dL_passes_469 rfl (lv_at hl 17 rfl) ?_
                      refine x_i2l hx hb (by omega) dL_passes_470 ?_
                      refine x_lmul hx hb dL_passes_471 ?_
                      refine x_lcmp_gt (tgt := 529) hx hb dL_passes_472 dL_passes_473 (by decide) (by omega) (by omega) (fun c_472 => ?_) (fun c_472 => ?_)
                      · exfalso; omega
                      · refine lv_aload_n hx hb dL_passes_476 rfl (lv_at hl 16 rfl) ?_
                        refine x_bipush hx hb dL_passes_477 (by decide +kernel) ?_
                        refine x_callVR (As := [.int (zI 11)]) (rest := []) S hK (p_count_11 l D cs a (elF τ w) pd ln (by first | exact hG | exact hG2)) (cwV 1 hts gL_passes_X6_count rfl rfl rfl (by decide +kernel) ⟨(Nat.le_of_ble_eq_true rfl), (Nat.le_of_ble_eq_true rfl)⟩) (PW_rc hK hW) hW rfl hl.1 (Nat.le_of_ble_eq_true rfl) dL_passes_479 ⟨Nat.zero_le _, Nat.zero_le _⟩ ?_
                        refine x_if_ne (tgt := 504) hx hb dL_passes_482 (by decide) (by omega) (fun c_482 => ?_) (fun c_482 => ?_)
                        · refine lv_lload hx hb dL_passes_504 (lv_at hl 1 rfl) ?_
                          refine x_ldc2 (v := 6000) hx hb hown (hts (.constantLong RL 48 (zL 6000)) (by decide +kernel)) dL_passes_506 ?_
                          refine x_lcmp_gt (tgt := 529) hx hb dL_passes_509 dL_passes_510 (by decide) (by omega) (by omega) (fun c_509 => ?_) (fun c_509 => ?_)
                          · exfalso; omega
                          · refine lv_iload hx hb dL_passes_513 (lv_at hl 6 rfl) ?_
                            refine x_if_gt (tgt := 525) hx hb dL_passes_515 (by decide) (by omega) (fun c_515 => ?_) (fun c_515 => ?_)
                            · refine x_iconst hx hb dL_passes_525 ?_
                              refine lv_goto (tgt := 530) hx hb dL_passes_526 (by decide) ?_
                              exact x_zretM hx hb hr hlocks (by first | rfl | omega) (by exact Or.inr rfl) hW hS dL_passes_530
                            · refine lv_lload hx hb dL_passes_518 (lv_at hl 1 rfl) ?_
                              refine x_lconst (v := 0) hx hb dL_passes_520 rfl ?_
                              refine x_lcmp_neE (tgt := 529) hx hb dL_passes_521 dL_passes_522 (by decide) (by omega) ?_
                              refine x_iconst hx hb dL_passes_525 ?_
                              refine lv_goto (tgt := 530) hx hb dL_passes_526 (by decide) ?_
                              exact x_zretM hx hb hr hlocks (by first | rfl | omega) (by exact Or.inr rfl) hW hS dL_passes_530
                        · refine lv_lload hx hb dL_passes_485 (lv_at hl 1 rfl) ?_
                          refine lv_aload_n hx hb dL_passes_487 rfl (lv_at hl 16 rfl) ?_
                          refine x_bipush hx hb dL_passes_488 (by decide +kernel) ?_
                          refine x_callVR (As := [.int (zI 10)]) (rest := [.long (zL (((6000 * ((wtA τ k w 0) + (wtA τ k w 1))) + ((elF τ w) (11 + 13 * k + 1))) - (τ (11 + 13 * k + 1))))]) S hK (p_count_10 l D cs a (elF τ w) pd ln (by first | exact hG | exact hG2)) (cwV 1 hts gL_passes_X6_count rfl rfl rfl (by decide +kernel) ⟨(Nat.le_of_ble_eq_true rfl), (Nat.le_of_ble_eq_true rfl)⟩) (PW_rc hK hW) hW rfl hl.1 (Nat.le_of_ble_eq_true rfl) dL_passes_490 ⟨Nat.zero_le _, Nat.zero_le _⟩ ?_
                          refine x_i2l hx hb (by omega) dL_passes_493 ?_
                          refine lv_iload_n hx hb dL_passes_494 rfl (lv_at hl 17 rfl) ?_
                          refine x_i2l hx hb (by omega) dL_passes_495 ?_
                          refine x_lmul hx hb dL_passes_496 ?_
                          refine x_lcmp_neE (tgt := 529) hx hb dL_passes_497 dL_passes_498 (by decide) (by omega) ?_
                          refine lv_goto (tgt := 525) hx hb dL_passes_501 (by decide) ?_
                          refine x_iconst hx hb dL_passes_525 ?_
                          refine lv_goto (tgt := 530) hx hb dL_passes_526 (by decide) ?_
                          exact x_zretM hx hb hr hlocks (by first | rfl | omega) (by exact Or.inr rfl) hW hS dL_passes_530
                    · exfalso; omega
                  · refine lv_iload hx hb dL_passes_363 (lv_at hl 0 rfl) ?_
                    refine x_if_eq (tgt := 379) hx hb dL_passes_365 (by decide) (by decide) (fun q => absurd q (by decide)) (fun _ => ?_)
                    refine lv_lload hx hb dL_passes_368 (lv_at hl 1 rfl) ?_
                    refine x_lconst (v := 0) hx hb dL_passes_370 rfl ?_
                    refine x_lcmp_neE (tgt := 379) hx hb dL_passes_371 dL_passes_372 (by decide) (by omega) ?_
                    refine x_iconst hx hb dL_passes_375 ?_
                    refine lv_goto (tgt := 380) hx hb dL_passes_376 (by decide) ?_
                    exact x_zretM hx hb hr hlocks (by first | rfl | omega) (by exact Or.inr rfl) hW hS dL_passes_380
              · refine lv_iload hx hb dL_passes_333 (lv_at hl 8 rfl) ?_
                refine lv_aload_n hx hb dL_passes_335 rfl (lv_at hl 16 rfl) ?_
                refine x_bipush hx hb dL_passes_336 (by decide +kernel) ?_
                refine x_callVR (As := [.int (zI 9)]) (rest := [.int (zI (cpow τ k))]) S hK (p_count_9 l D cs a (elF τ w) pd ln (by first | exact hG | exact hG2)) (cwV 1 hts gL_passes_X6_count rfl rfl rfl (by decide +kernel) ⟨(Nat.le_of_ble_eq_true rfl), (Nat.le_of_ble_eq_true rfl)⟩) (PW_rc hK hW) hW rfl hl.1 (Nat.le_of_ble_eq_true rfl) dL_passes_338 ⟨Nat.zero_le _, Nat.zero_le _⟩ ?_
                refine x_icmp_le (tgt := 363) hx hb dL_passes_341 (by decide) (by omega) (by omega) (fun c_341 => ?_) (fun c_341 => ?_)
                · refine lv_iload hx hb dL_passes_363 (lv_at hl 0 rfl) ?_
                  refine x_if_eq (tgt := 379) hx hb dL_passes_365 (by decide) (by decide) (fun q => absurd q (by decide)) (fun _ => ?_)
                  refine lv_lload hx hb dL_passes_368 (lv_at hl 1 rfl) ?_
                  refine x_lconst (v := 0) hx hb dL_passes_370 rfl ?_
                  refine x_lcmp_neE (tgt := 379) hx hb dL_passes_371 dL_passes_372 (by decide) (by omega) ?_
                  refine x_iconst hx hb dL_passes_375 ?_
                  refine lv_goto (tgt := 380) hx hb dL_passes_376 (by decide) ?_
                  exact x_zretM hx hb hr hlocks (by first | rfl | omega) (by exact Or.inr rfl) hW hS dL_passes_380
                · refine lv_iload hx hb dL_passes_344 (lv_at hl 8 rfl) ?_
                  refine x_if_ne (tgt := 381) hx hb dL_passes_346 (by decide) (by omega) (fun c_346 => ?_) (fun c_346 => ?_)
                  · refine lv_iload hx hb dL_passes_381 (lv_at hl 8 rfl) ?_
                    refine x_if_le (tgt := 455) hx hb dL_passes_383 (by decide) (by omega) (fun c_383 => ?_) (fun c_383 => ?_)
                    · exfalso; omega
                    · have hps : 0 ≤ cpow τ k * τ (11 + 13 * k + 2) ∧ cpow τ k * τ (11 + 13 * k + 2) ≤ 48000 * 160 := ⟨Int.mul_nonneg hcp.1 (by omega), Int.mul_le_mul hcp.2 hm.2.1.2 (by omega) (by omega)⟩
                      refine lv_iload hx hb dL_passes_386 (lv_at hl 8 rfl) ?_
                      refine x_i2l hx hb (by omega) dL_passes_388 ?_
                      refine lv_iload hx hb dL_passes_389 (lv_at hl 5 rfl) ?_
                      refine x_i2l hx hb (by omega) dL_passes_391 ?_
                      refine x_lmul hx hb dL_passes_392 ?_
                      refine x_ldc2 (v := 100) hx hb hown (hts (.constantLong RL 50 (zL 100)) (by decide +kernel)) dL_passes_393 ?_
                      refine x_ldiv hx hb (by omega) (by omega) dL_passes_396 ?_
                      refine lv_iload hx hb dL_passes_397 (lv_at hl 3 rfl) ?_
                      refine x_if_eq (tgt := 408) hx hb dL_passes_399 (by decide) (by decide) (fun _ => ?_) (fun q => absurd q (by decide))
                      refine x_lconst (v := 1) hx hb dL_passes_408 rfl ?_
                      refine x_ldiv hx hb (by omega) (by omega) dL_passes_409 ?_
                      refine lv_iload_n hx hb dL_passes_410 rfl (lv_at hl 17 rfl) ?_
                      refine x_i2l hx hb (by omega) dL_passes_411 ?_
                      refine x_lmul hx hb dL_passes_412 ?_
                      have fG2 := fG (by omega)
                      first | rw [stp_b c_145] at fG2 | rw [stp_n c_145] at fG2
                      refine lv_lstore (lv' := [(21, .long (zL (((((cpow τ k) * (τ (11 + 13 * k + 2))) / 100) / 1) * w))), (18, .int (zI 1)), (19, .long (zL (((6000 * ((wtA τ k w 0) + (wtA τ k w 1))) + ((elF τ w) (11 + 13 * k + 1))) - (τ (11 + 13 * k + 1))))), (17, .int (zI (pasA τ w))), (16, .int (zI 0)), (15, .int (zI (wkA τ k))), (14, .int (zI (τ (11 + 13 * k + 2)))), (13, .int (zI (τ (11 + 13 * k + 1)))), (11, .long (zL (msA τ k))), (10, .int (zI (cpow τ k))), (9, .int (zI (tinA τ k))), (8, .int (zI (τ (11 + 13 * k + 4)))), (7, .int (zI (τ (11 + 13 * k + 3)))), (6, .int (zI (wtA τ k w 1))), (5, .int (zI (wtA τ k w 0))), (4, .int (zI (trS τ (τ 7).toNat))), (3, .int (zI (τ 6))), (0, .ref (a 0)), (1, .int (zI w)), (2, .int (zI k))]) hx hb dL_passes_413 hl (by decide) rfl (fun ls hl => ?_)
                      refine lv_iload hx hb dL_passes_415 (lv_at hl 1 rfl) ?_
                      refine x_if_eq (tgt := 453) hx hb dL_passes_417 (by decide) (by decide) (fun q => absurd q (by decide)) (fun _ => ?_)
                      refine lv_lload hx hb dL_passes_420 (lv_at hl 2 rfl) ?_
                      refine lv_lload hx hb dL_passes_422 (lv_at hl 0 rfl) ?_
                      refine x_lcmp_lt (tgt := 453) hx hb dL_passes_424 dL_passes_425 (by decide) (by omega) (by omega) (fun c_424 => ?_) (fun c_424 => ?_)
                      · exfalso; omega
                      · refine lv_iload hx hb dL_passes_428 (lv_at hl 5 rfl) ?_
                        refine x_bipush hx hb dL_passes_430 (by decide +kernel) ?_
                        refine x_icmp_eq (tgt := 441) hx hb dL_passes_432 (by decide) (by omega) (by omega) (fun c_432 => ?_) (fun c_432 => ?_)
                        · refine lv_lload hx hb dL_passes_441 (lv_at hl 2 rfl) ?_
                          refine lv_lload hx hb dL_passes_443 (lv_at hl 0 rfl) ?_
                          refine x_lcmp_neE (tgt := 453) hx hb dL_passes_445 dL_passes_446 (by decide) (by omega) ?_
                          refine x_iconst hx hb dL_passes_449 ?_
                          refine lv_goto (tgt := 454) hx hb dL_passes_450 (by decide) ?_
                          exact x_zretM hx hb hr hlocks (by first | rfl | omega) (by exact Or.inr rfl) hW hS dL_passes_454
                        · refine lv_iload hx hb dL_passes_435 (lv_at hl 5 rfl) ?_
                          refine lv_iload_n hx hb dL_passes_437 rfl (lv_at hl 18 rfl) ?_
                          refine x_icmp_lt (tgt := 449) hx hb dL_passes_438 (by decide) (by omega) (by omega) (fun c_438 => ?_) (fun c_438 => ?_)
                          · refine x_iconst hx hb dL_passes_449 ?_
                            refine lv_goto (tgt := 454) hx hb dL_passes_450 (by decide) ?_
                            exact x_zretM hx hb hr hlocks (by first | rfl | omega) (by exact Or.inr rfl) hW hS dL_passes_454
                          · refine lv_lload hx hb dL_passes_441 (lv_at hl 2 rfl) ?_
                            refine lv_lload hx hb dL_passes_443 (lv_at hl 0 rfl) ?_
                            refine x_lcmp_neE (tgt := 453) hx hb dL_passes_445 dL_passes_446 (by decide) (by omega) ?_
                            refine x_iconst hx hb dL_passes_449 ?_
                            refine lv_goto (tgt := 454) hx hb dL_passes_450 (by decide) ?_
                            exact x_zretM hx hb hr hlocks (by first | rfl | omega) (by exact Or.inr rfl) hW hS dL_passes_454
                  · exfalso; omega
          · refine lv_iload hx hb dL_passes_232 (lv_at hl 7 rfl) ?_
            refine lv_iload_n hx hb dL_passes_234 rfl (lv_at hl 15 rfl) ?_
            refine x_icmp_gt (tgt := 242) hx hb dL_passes_235 (by decide) (by omega) (by omega) (fun c_235 => ?_) (fun c_235 => ?_)
            · refine x_iconst hx hb dL_passes_242 ?_
              refine x_icmp_ne (tgt := 261) hx hb dL_passes_243 (by decide) (by decide) (by decide) (fun q => absurd q (by decide)) (fun _ => ?_)
              refine lv_aload_n hx hb dL_passes_246 rfl (lv_at hl 14 rfl) ?_
              refine x_iconst hx hb dL_passes_247 ?_
              refine x_callVR (As := [.int (zI 0)]) (rest := []) S hK (p_count_0 l D cs a (elF τ w) pd ln (by first | exact hG | exact hG2)) (cwV 1 hts gL_passes_X6_count rfl rfl rfl (by decide +kernel) ⟨(Nat.le_of_ble_eq_true rfl), (Nat.le_of_ble_eq_true rfl)⟩) (PW_rc hK hW) hW rfl hl.1 (Nat.le_of_ble_eq_true rfl) dL_passes_248 ⟨Nat.zero_le _, Nat.zero_le _⟩ ?_
              refine lv_iload_n hx hb dL_passes_251 rfl (lv_at hl 13 rfl) ?_
              refine lv_iload_n hx hb dL_passes_252 rfl (lv_at hl 15 rfl) ?_
              refine x_iadd hx hb dL_passes_253 ?_
              refine x_icmp_neE (tgt := 261) hx hb dL_passes_254 (by decide) (by omega) ?_
              refine x_iconst hx hb dL_passes_257 ?_
              refine lv_goto (tgt := 262) hx hb dL_passes_258 (by decide) ?_
              refine lv_istore (lv' := [(18, .int (zI 1)), (17, .int (zI (pasA τ w))), (16, .int (zI 0)), (15, .int (zI (wkA τ k))), (14, .int (zI (τ (11 + 13 * k + 2)))), (13, .int (zI (τ (11 + 13 * k + 1)))), (11, .long (zL (msA τ k))), (10, .int (zI (cpow τ k))), (9, .int (zI (tinA τ k))), (8, .int (zI (τ (11 + 13 * k + 4)))), (7, .int (zI (τ (11 + 13 * k + 3)))), (6, .int (zI (wtA τ k w 1))), (5, .int (zI (wtA τ k w 0))), (4, .int (zI (trS τ (τ 7).toNat))), (3, .int (zI (τ 6))), (0, .ref (a 0)), (1, .int (zI w)), (2, .int (zI k))]) hx hb dL_passes_262 hl (by decide) rfl (fun ls hl => ?_)
              clear hti htr hpa hle eT e3 e4 hkk h8 h10 e6 hk0 hw0
              refine x_ldc2 (v := 6000) hx hb hown (hts (.constantLong RL 48 (zL 6000)) (by decide +kernel)) dL_passes_264 ?_
              refine lv_iload hx hb dL_passes_267 (lv_at hl 12 rfl) ?_
              refine lv_iload hx hb dL_passes_269 (lv_at hl 11 rfl) ?_
              refine x_iadd hx hb dL_passes_271 ?_
              refine x_i2l hx hb (by omega) dL_passes_272 ?_
              refine x_lmul hx hb dL_passes_273 ?_
              refine lv_aload_n hx hb dL_passes_274 rfl (lv_at hl 15 rfl) ?_
              refine lv_iload_n hx hb dL_passes_275 rfl (lv_at hl 17 rfl) ?_
              refine x_iconst hx hb dL_passes_276 ?_
              refine x_callVR (As := [.int (zI k), .int (zI 2)]) (rest := [.long (zL (6000 * ((wtA τ k w 0) + (wtA τ k w 1))))]) S hK (p_of_2 l D cs a (elF τ w) pd ln k (by first | exact hG | exact hG2) (by first | exact hk | exact hk2)) (cwV 2 hts gL_passes_X6_of rfl rfl rfl (by decide +kernel) ⟨(Nat.le_of_ble_eq_true rfl), (Nat.le_of_ble_eq_true rfl)⟩) (PW_rc hK hW) hW rfl hl.1 (Nat.le_of_ble_eq_true rfl) dL_passes_277 ⟨Nat.zero_le _, Nat.zero_le _⟩ ?_
              refine x_i2l hx hb (by omega) dL_passes_280 ?_
              refine x_ladd hx hb dL_passes_281 ?_
              refine lv_iload hx hb dL_passes_282 (lv_at hl 5 rfl) ?_
              refine x_i2l hx hb (by omega) dL_passes_284 ?_
              refine x_lsub hx hb dL_passes_285 ?_
              refine lv_lstore (lv' := [(19, .long (zL (((6000 * ((wtA τ k w 0) + (wtA τ k w 1))) + ((elF τ w) (11 + 13 * k + 1))) - (τ (11 + 13 * k + 1))))), (18, .int (zI 1)), (17, .int (zI (pasA τ w))), (16, .int (zI 0)), (15, .int (zI (wkA τ k))), (14, .int (zI (τ (11 + 13 * k + 2)))), (13, .int (zI (τ (11 + 13 * k + 1)))), (11, .long (zL (msA τ k))), (10, .int (zI (cpow τ k))), (9, .int (zI (tinA τ k))), (8, .int (zI (τ (11 + 13 * k + 4)))), (7, .int (zI (τ (11 + 13 * k + 3)))), (6, .int (zI (wtA τ k w 1))), (5, .int (zI (wtA τ k w 0))), (4, .int (zI (trS τ (τ 7).toNat))), (3, .int (zI (τ 6))), (0, .ref (a 0)), (1, .int (zI w)), (2, .int (zI k))]) hx hb dL_passes_286 hl (by decide) rfl (fun ls hl => ?_)
              refine lv_iload hx hb dL_passes_288 (lv_at hl 1 rfl) ?_
              refine x_if_eq (tgt := 325) hx hb dL_passes_290 (by decide) (by decide) (fun q => absurd q (by decide)) (fun _ => ?_)
              refine lv_aload_n hx hb dL_passes_293 rfl (lv_at hl 16 rfl) ?_
              refine lv_iload_n hx hb dL_passes_294 rfl (lv_at hl 18 rfl) ?_
              refine x_callVR (As := [.int (zI k)]) (rest := []) S hK (p_misses l D cs a (elF τ w) pd ln k (by first | exact hG | exact hG2) (by first | exact hk | exact hk2)) (cwV 1 hts gL_passes_X6_misses rfl rfl rfl (by decide +kernel) ⟨(Nat.le_of_ble_eq_true rfl), (Nat.le_of_ble_eq_true rfl)⟩) (PW_rc hK hW) hW rfl hl.1 (Nat.le_of_ble_eq_true rfl) dL_passes_295 ⟨Nat.zero_le _, Nat.zero_le _⟩ ?_
              refine lv_lload hx hb dL_passes_298 (lv_at hl 7 rfl) ?_
              refine lv_iload hx hb dL_passes_300 (lv_at hl 8 rfl) ?_
              refine x_i2l hx hb (by omega) dL_passes_302 ?_
              refine lv_iload_n hx hb dL_passes_303 rfl (lv_at hl 17 rfl) ?_
              refine x_i2l hx hb (by omega) dL_passes_304 ?_
              refine x_lmul hx hb dL_passes_305 ?_
              refine x_ladd hx hb dL_passes_306 ?_
              refine lv_lload hx hb dL_passes_307 (lv_at hl 0 rfl) ?_
              refine x_lsub hx hb dL_passes_309 ?_
              refine x_lcmp_neE (tgt := 325) hx hb dL_passes_310 dL_passes_311 (by decide) (by omega) ?_
              refine lv_lload hx hb dL_passes_314 (lv_at hl 0 rfl) ?_
              refine x_lconst (v := 0) hx hb dL_passes_316 rfl ?_
              refine x_lcmp_lt (tgt := 325) hx hb dL_passes_317 dL_passes_318 (by decide) (by omega) (by omega) (fun c_317 => ?_) (fun c_317 => ?_)
              · exfalso; omega
              · refine x_iconst hx hb dL_passes_321 ?_
                refine lv_goto (tgt := 326) hx hb dL_passes_322 (by decide) ?_
                refine lv_istore (lv' := [(18, .int (zI 1)), (19, .long (zL (((6000 * ((wtA τ k w 0) + (wtA τ k w 1))) + ((elF τ w) (11 + 13 * k + 1))) - (τ (11 + 13 * k + 1))))), (17, .int (zI (pasA τ w))), (16, .int (zI 0)), (15, .int (zI (wkA τ k))), (14, .int (zI (τ (11 + 13 * k + 2)))), (13, .int (zI (τ (11 + 13 * k + 1)))), (11, .long (zL (msA τ k))), (10, .int (zI (cpow τ k))), (9, .int (zI (tinA τ k))), (8, .int (zI (τ (11 + 13 * k + 4)))), (7, .int (zI (τ (11 + 13 * k + 3)))), (6, .int (zI (wtA τ k w 1))), (5, .int (zI (wtA τ k w 0))), (4, .int (zI (trS τ (τ 7).toNat))), (3, .int (zI (τ 6))), (0, .ref (a 0)), (1, .int (zI w)), (2, .int (zI k))]) hx hb dL_passes_326 hl (by decide) rfl (fun ls hl => ?_)
                refine lv_iload hx hb dL_passes_328 (lv_at hl 8 rfl) ?_
                refine x_if_le (tgt := 344) hx hb dL_passes_330 (by decide) (by omega) (fun c_330 => ?_) (fun c_330 => ?_)
                · refine lv_iload hx hb dL_passes_344 (lv_at hl 8 rfl) ?_
                  refine x_if_ne (tgt := 381) hx hb dL_passes_346 (by decide) (by omega) (fun c_346 => ?_) (fun c_346 => ?_)
                  · exfalso; omega
                  · refine lv_iload hx hb dL_passes_349 (lv_at hl 3 rfl) ?_
                    refine x_if_ne (tgt := 363) hx hb dL_passes_351 (by decide) (by decide) (fun q => absurd q (by decide)) (fun _ => ?_)
                    refine lv_aload_n hx hb dL_passes_354 rfl (lv_at hl 16 rfl) ?_
                    refine x_bipush hx hb dL_passes_355 (by decide +kernel) ?_
                    refine x_callVR (As := [.int (zI 10)]) (rest := []) S hK (p_count_10 l D cs a (elF τ w) pd ln (by first | exact hG | exact hG2)) (cwV 1 hts gL_passes_X6_count rfl rfl rfl (by decide +kernel) ⟨(Nat.le_of_ble_eq_true rfl), (Nat.le_of_ble_eq_true rfl)⟩) (PW_rc hK hW) hW rfl hl.1 (Nat.le_of_ble_eq_true rfl) dL_passes_357 ⟨Nat.zero_le _, Nat.zero_le _⟩ ?_
                    refine x_if_ne (tgt := 381) hx hb dL_passes_360 (by decide) (by omega) (fun c_360 => ?_) (fun c_360 => ?_)
                    · refine lv_iload hx hb dL_passes_381 (lv_at hl 8 rfl) ?_
                      refine x_if_le (tgt := 455) hx hb dL_passes_383 (by decide) (by omega) (fun c_383 => ?_) (fun c_383 => ?_)
                      · have fC2 := fC (by omega) c_145
                        have eC : elF τ w 1 * w = τ 1 * w := by rw [eL1]
                        have hcr : 0 ≤ τ 1 * w ∧ τ 1 * w ≤ 9 * 1000 := ⟨Int.mul_nonneg (by omega) (by omega), Int.mul_le_mul hss.2.1.2 hw.2 (by omega) (by omega)⟩
                        refine lv_iload hx hb dL_passes_455 (lv_at hl 0 rfl) ?_
                        refine x_if_eq (tgt := 529) hx hb dL_passes_457 (by decide) (by decide) (fun q => absurd q (by decide)) (fun _ => ?_)
                        refine lv_lload hx hb dL_passes_460 (lv_at hl 1 rfl) ?_
                        refine lv_aload_n hx hb dL_passes_462 rfl (lv_at hl 16 rfl) ?_
                        refine x_bipush hx hb dL_passes_463 (by decide +kernel) ?_
                        refine x_callVR (As := [.int (zI 10)]) (rest := [.long (zL (((6000 * ((wtA τ k w 0) + (wtA τ k w 1))) + ((elF τ w) (11 + 13 * k + 1))) - (τ (11 + 13 * k + 1))))]) S hK (p_count_10 l D cs a (elF τ w) pd ln (by first | exact hG | exact hG2)) (cwV 1 hts gL_passes_X6_count rfl rfl rfl (by decide +kernel) ⟨(Nat.le_of_ble_eq_true rfl), (Nat.le_of_ble_eq_true rfl)⟩) (PW_rc hK hW) hW rfl hl.1 (Nat.le_of_ble_eq_true rfl) dL_passes_465 ⟨Nat.zero_le _, Nat.zero_le _⟩ ?_
                        refine x_i2l hx hb (by omega) dL_passes_468 ?_
                        refine lv_iload_n hx hb dL_passes_469 rfl (lv_at hl 17 rfl) ?_
                        refine x_i2l hx hb (by omega) dL_passes_470 ?_
                        refine x_lmul hx hb dL_passes_471 ?_
                        refine x_lcmp_gt (tgt := 529) hx hb dL_passes_472 dL_passes_473 (by decide) (by omega) (by omega) (fun c_472 => ?_) (fun c_472 => ?_)
                        · exfalso; omega
                        · refine lv_aload_n hx hb dL_passes_476 rfl (lv_at hl 16 rfl) ?_
                          refine x_bipush hx hb dL_passes_477 (by decide +kernel) ?_
                          refine x_callVR (As := [.int (zI 11)]) (rest := []) S hK (p_count_11 l D cs a (elF τ w) pd ln (by first | exact hG | exact hG2)) (cwV 1 hts gL_passes_X6_count rfl rfl rfl (by decide +kernel) ⟨(Nat.le_of_ble_eq_true rfl), (Nat.le_of_ble_eq_true rfl)⟩) (PW_rc hK hW) hW rfl hl.1 (Nat.le_of_ble_eq_true rfl) dL_passes_479 ⟨Nat.zero_le _, Nat.zero_le _⟩ ?_
                          refine x_if_ne (tgt := 504) hx hb dL_passes_482 (by decide) (by omega) (fun c_482 => ?_) (fun c_482 => ?_)
                          · refine lv_lload hx hb dL_passes_504 (lv_at hl 1 rfl) ?_
                            refine x_ldc2 (v := 6000) hx hb hown (hts (.constantLong RL 48 (zL 6000)) (by decide +kernel)) dL_passes_506 ?_
                            refine x_lcmp_gt (tgt := 529) hx hb dL_passes_509 dL_passes_510 (by decide) (by omega) (by omega) (fun c_509 => ?_) (fun c_509 => ?_)
                            · exfalso; omega
                            · refine lv_iload hx hb dL_passes_513 (lv_at hl 6 rfl) ?_
                              refine x_if_gt (tgt := 525) hx hb dL_passes_515 (by decide) (by omega) (fun c_515 => ?_) (fun c_515 => ?_)
                              · refine x_iconst hx hb dL_passes_525 ?_
                                refine lv_goto (tgt := 530) hx hb dL_passes_526 (by decide) ?_
                                exact x_zretM hx hb hr hlocks (by first | rfl | omega) (by exact Or.inr rfl) hW hS dL_passes_530
                              · refine lv_lload hx hb dL_passes_518 (lv_at hl 1 rfl) ?_
                                refine x_lconst (v := 0) hx hb dL_passes_520 rfl ?_
                                refine x_lcmp_neE (tgt := 529) hx hb dL_passes_521 dL_passes_522 (by decide) (by omega) ?_
                                refine x_iconst hx hb dL_passes_525 ?_
                                refine lv_goto (tgt := 530) hx hb dL_passes_526 (by decide) ?_
                                exact x_zretM hx hb hr hlocks (by first | rfl | omega) (by exact Or.inr rfl) hW hS dL_passes_530
                          · refine lv_lload hx hb dL_passes_485 (lv_at hl 1 rfl) ?_
                            refine lv_aload_n hx hb dL_passes_487 rfl (lv_at hl 16 rfl) ?_
                            refine x_bipush hx hb dL_passes_488 (by decide +kernel) ?_
                            refine x_callVR (As := [.int (zI 10)]) (rest := [.long (zL (((6000 * ((wtA τ k w 0) + (wtA τ k w 1))) + ((elF τ w) (11 + 13 * k + 1))) - (τ (11 + 13 * k + 1))))]) S hK (p_count_10 l D cs a (elF τ w) pd ln (by first | exact hG | exact hG2)) (cwV 1 hts gL_passes_X6_count rfl rfl rfl (by decide +kernel) ⟨(Nat.le_of_ble_eq_true rfl), (Nat.le_of_ble_eq_true rfl)⟩) (PW_rc hK hW) hW rfl hl.1 (Nat.le_of_ble_eq_true rfl) dL_passes_490 ⟨Nat.zero_le _, Nat.zero_le _⟩ ?_
                            refine x_i2l hx hb (by omega) dL_passes_493 ?_
                            refine lv_iload_n hx hb dL_passes_494 rfl (lv_at hl 17 rfl) ?_
                            refine x_i2l hx hb (by omega) dL_passes_495 ?_
                            refine x_lmul hx hb dL_passes_496 ?_
                            refine x_lcmp_neE (tgt := 529) hx hb dL_passes_497 dL_passes_498 (by decide) (by omega) ?_
                            refine lv_goto (tgt := 525) hx hb dL_passes_501 (by decide) ?_
                            refine x_iconst hx hb dL_passes_525 ?_
                            refine lv_goto (tgt := 530) hx hb dL_passes_526 (by decide) ?_
                            exact x_zretM hx hb hr hlocks (by first | rfl | omega) (by exact Or.inr rfl) hW hS dL_passes_530
                      · exfalso; omega
                    · refine lv_iload hx hb dL_passes_363 (lv_at hl 0 rfl) ?_
                      refine x_if_eq (tgt := 379) hx hb dL_passes_365 (by decide) (by decide) (fun q => absurd q (by decide)) (fun _ => ?_)
                      refine lv_lload hx hb dL_passes_368 (lv_at hl 1 rfl) ?_
                      refine x_lconst (v := 0) hx hb dL_passes_370 rfl ?_
                      refine x_lcmp_neE (tgt := 379) hx hb dL_passes_371 dL_passes_372 (by decide) (by omega) ?_
                      refine x_iconst hx hb dL_passes_375 ?_
                      refine lv_goto (tgt := 380) hx hb dL_passes_376 (by decide) ?_
                      exact x_zretM hx hb hr hlocks (by first | rfl | omega) (by exact Or.inr rfl) hW hS dL_passes_380
                · refine lv_iload hx hb dL_passes_333 (lv_at hl 8 rfl) ?_
                  refine lv_aload_n hx hb dL_passes_335 rfl (lv_at hl 16 rfl) ?_
                  refine x_bipush hx hb dL_passes_336 (by decide +kernel) ?_
                  refine x_callVR (As := [.int (zI 9)]) (rest := [.int (zI (cpow τ k))]) S hK (p_count_9 l D cs a (elF τ w) pd ln (by first | exact hG | exact hG2)) (cwV 1 hts gL_passes_X6_count rfl rfl rfl (by decide +kernel) ⟨(Nat.le_of_ble_eq_true rfl), (Nat.le_of_ble_eq_true rfl)⟩) (PW_rc hK hW) hW rfl hl.1 (Nat.le_of_ble_eq_true rfl) dL_passes_338 ⟨Nat.zero_le _, Nat.zero_le _⟩ ?_
                  refine x_icmp_le (tgt := 363) hx hb dL_passes_341 (by decide) (by omega) (by omega) (fun c_341 => ?_) (fun c_341 => ?_)
                  · refine lv_iload hx hb dL_passes_363 (lv_at hl 0 rfl) ?_
                    refine x_if_eq (tgt := 379) hx hb dL_passes_365 (by decide) (by decide) (fun q => absurd q (by decide)) (fun _ => ?_)
                    refine lv_lload hx hb dL_passes_368 (lv_at hl 1 rfl) ?_
                    refine x_lconst (v := 0) hx hb dL_passes_370 rfl ?_
                    refine x_lcmp_neE (tgt := 379) hx hb dL_passes_371 dL_passes_372 (by decide) (by omega) ?_
                    refine x_iconst hx hb dL_passes_375 ?_
                    refine lv_goto (tgt := 380) hx hb dL_passes_376 (by decide) ?_
                    exact x_zretM hx hb hr hlocks (by first | rfl | omega) (by exact Or.inr rfl) hW hS dL_passes_380
                  · refine lv_iload hx hb dL_passes_344 (lv_at hl 8 rfl) ?_
                    refine x_if_ne (tgt := 381) hx hb dL_passes_346 (by decide) (by omega) (fun c_346 => ?_) (fun c_346 => ?_)
                    · refine lv_iload hx hb dL_passes_381 (lv_at hl 8 rfl) ?_
                      refine x_if_le (tgt := 455) hx hb dL_passes_383 (by decide) (by omega) (fun c_383 => ?_) (fun c_383 => ?_)
                      · exfalso; omega
                      · have hps : 0 ≤ cpow τ k * τ (11 + 13 * k + 2) ∧ cpow τ k * τ (11 + 13 * k + 2) ≤ 48000 * 160 := ⟨Int.mul_nonneg hcp.1 (by omega), Int.mul_le_mul hcp.2 hm.2.1.2 (by omega) (by omega)⟩
                        refine lv_iload hx hb dL_passes_386 (lv_at hl 8 rfl) ?_
                        refine x_i2l hx hb (by omega) dL_passes_388 ?_
                        refine lv_iload hx hb dL_passes_389 (lv_at hl 5 rfl) ?_
                        refine x_i2l hx hb (by omega) dL_passes_391 ?_
                        refine x_lmul hx hb dL_passes_392 ?_
                        refine x_ldc2 (v := 100) hx hb hown (hts (.constantLong RL 50 (zL 100)) (by decide +kernel)) dL_passes_393 ?_
                        refine x_ldiv hx hb (by omega) (by omega) dL_passes_396 ?_
                        refine lv_iload hx hb dL_passes_397 (lv_at hl 3 rfl) ?_
                        refine x_if_eq (tgt := 408) hx hb dL_passes_399 (by decide) (by decide) (fun _ => ?_) (fun q => absurd q (by decide))
                        refine x_lconst (v := 1) hx hb dL_passes_408 rfl ?_
                        refine x_ldiv hx hb (by omega) (by omega) dL_passes_409 ?_
                        refine lv_iload_n hx hb dL_passes_410 rfl (lv_at hl 17 rfl) ?_
                        refine x_i2l hx hb (by omega) dL_passes_411 ?_
                        refine x_lmul hx hb dL_passes_412 ?_
                        have fG2 := fG (by omega)
                        first | rw [stp_b c_145] at fG2 | rw [stp_n c_145] at fG2
                        refine lv_lstore (lv' := [(21, .long (zL (((((cpow τ k) * (τ (11 + 13 * k + 2))) / 100) / 1) * w))), (18, .int (zI 1)), (19, .long (zL (((6000 * ((wtA τ k w 0) + (wtA τ k w 1))) + ((elF τ w) (11 + 13 * k + 1))) - (τ (11 + 13 * k + 1))))), (17, .int (zI (pasA τ w))), (16, .int (zI 0)), (15, .int (zI (wkA τ k))), (14, .int (zI (τ (11 + 13 * k + 2)))), (13, .int (zI (τ (11 + 13 * k + 1)))), (11, .long (zL (msA τ k))), (10, .int (zI (cpow τ k))), (9, .int (zI (tinA τ k))), (8, .int (zI (τ (11 + 13 * k + 4)))), (7, .int (zI (τ (11 + 13 * k + 3)))), (6, .int (zI (wtA τ k w 1))), (5, .int (zI (wtA τ k w 0))), (4, .int (zI (trS τ (τ 7).toNat))), (3, .int (zI (τ 6))), (0, .ref (a 0)), (1, .int (zI w)), (2, .int (zI k))]) hx hb dL_passes_413 hl (by decide) rfl (fun ls hl => ?_)
                        refine lv_iload hx hb dL_passes_415 (lv_at hl 1 rfl) ?_
                        refine x_if_eq (tgt := 453) hx hb dL_passes_417 (by decide) (by decide) (fun q => absurd q (by decide)) (fun _ => ?_)
                        refine lv_lload hx hb dL_passes_420 (lv_at hl 2 rfl) ?_
                        refine lv_lload hx hb dL_passes_422 (lv_at hl 0 rfl) ?_
                        refine x_lcmp_lt (tgt := 453) hx hb dL_passes_424 dL_passes_425 (by decide) (by omega) (by omega) (fun c_424 => ?_) (fun c_424 => ?_)
                        · exfalso; omega
                        · refine lv_iload hx hb dL_passes_428 (lv_at hl 5 rfl) ?_
                          refine x_bipush hx hb dL_passes_430 (by decide +kernel) ?_
                          refine x_icmp_eq (tgt := 441) hx hb dL_passes_432 (by decide) (by omega) (by omega) (fun c_432 => ?_) (fun c_432 => ?_)
                          · refine lv_lload hx hb dL_passes_441 (lv_at hl 2 rfl) ?_
                            refine lv_lload hx hb dL_passes_443 (lv_at hl 0 rfl) ?_
                            refine x_lcmp_neE (tgt := 453) hx hb dL_passes_445 dL_passes_446 (by decide) (by omega) ?_
                            refine x_iconst hx hb dL_passes_449 ?_
                            refine lv_goto (tgt := 454) hx hb dL_passes_450 (by decide) ?_
                            exact x_zretM hx hb hr hlocks (by first | rfl | omega) (by exact Or.inr rfl) hW hS dL_passes_454
                          · refine lv_iload hx hb dL_passes_435 (lv_at hl 5 rfl) ?_
                            refine lv_iload_n hx hb dL_passes_437 rfl (lv_at hl 18 rfl) ?_
                            refine x_icmp_lt (tgt := 449) hx hb dL_passes_438 (by decide) (by omega) (by omega) (fun c_438 => ?_) (fun c_438 => ?_)
                            · refine x_iconst hx hb dL_passes_449 ?_
                              refine lv_goto (tgt := 454) hx hb dL_passes_450 (by decide) ?_
                              exact x_zretM hx hb hr hlocks (by first | rfl | omega) (by exact Or.inr rfl) hW hS dL_passes_454
                            · refine lv_lload hx hb dL_passes_441 (lv_at hl 2 rfl) ?_
                              refine lv_lload hx hb dL_passes_443 (lv_at hl 0 rfl) ?_
                              refine x_lcmp_neE (tgt := 453) hx hb dL_passes_445 dL_passes_446 (by decide) (by omega) ?_
                              refine x_iconst hx hb dL_passes_449 ?_
                              refine lv_goto (tgt := 454) hx hb dL_passes_450 (by decide) ?_
                              exact x_zretM hx hb hr hlocks (by first | rfl | omega) (by exact Or.inr rfl) hW hS dL_passes_454
                    · exfalso; omega
            · refine x_iconst hx hb dL_passes_238 ?_
              refine lv_goto (tgt := 243) hx hb dL_passes_239 (by decide) ?_
              refine x_icmp_ne (tgt := 261) hx hb dL_passes_243 (by decide) (by decide) (by decide) (fun _ => ?_) (fun q => absurd q (by decide))
              exfalso; omega
        · refine x_iconst hx hb dL_passes_222 ?_
          refine lv_goto (tgt := 227) hx hb dL_passes_223 (by decide) ?_
          refine lv_iload hx hb dL_passes_227 (lv_at hl 7 rfl) ?_
          refine x_if_le (tgt := 242) hx hb dL_passes_229 (by decide) (by omega) (fun c_229 => ?_) (fun c_229 => ?_)
          · refine x_iconst hx hb dL_passes_242 ?_
            refine x_icmp_ne (tgt := 261) hx hb dL_passes_243 (by decide) (by decide) (by decide) (fun _ => ?_) (fun q => absurd q (by decide))
            exfalso; omega
          · refine lv_iload hx hb dL_passes_232 (lv_at hl 7 rfl) ?_
            refine lv_iload_n hx hb dL_passes_234 rfl (lv_at hl 15 rfl) ?_
            refine x_icmp_gt (tgt := 242) hx hb dL_passes_235 (by decide) (by omega) (by omega) (fun c_235 => ?_) (fun c_235 => ?_)
            · refine x_iconst hx hb dL_passes_242 ?_
              refine x_icmp_ne (tgt := 261) hx hb dL_passes_243 (by decide) (by decide) (by decide) (fun _ => ?_) (fun q => absurd q (by decide))
              exfalso; omega
            · refine x_iconst hx hb dL_passes_238 ?_
              refine lv_goto (tgt := 243) hx hb dL_passes_239 (by decide) ?_
              refine x_icmp_ne (tgt := 261) hx hb dL_passes_243 (by decide) (by decide) (by decide) (fun q => absurd q (by decide)) (fun _ => ?_)
              refine lv_aload_n hx hb dL_passes_246 rfl (lv_at hl 14 rfl) ?_
              refine x_iconst hx hb dL_passes_247 ?_
              refine x_callVR (As := [.int (zI 0)]) (rest := []) S hK (p_count_0 l D cs a (elF τ w) pd ln (by first | exact hG | exact hG2)) (cwV 1 hts gL_passes_X6_count rfl rfl rfl (by decide +kernel) ⟨(Nat.le_of_ble_eq_true rfl), (Nat.le_of_ble_eq_true rfl)⟩) (PW_rc hK hW) hW rfl hl.1 (Nat.le_of_ble_eq_true rfl) dL_passes_248 ⟨Nat.zero_le _, Nat.zero_le _⟩ ?_
              refine lv_iload_n hx hb dL_passes_251 rfl (lv_at hl 13 rfl) ?_
              refine lv_iload_n hx hb dL_passes_252 rfl (lv_at hl 15 rfl) ?_
              refine x_iadd hx hb dL_passes_253 ?_
              refine x_icmp_neE (tgt := 261) hx hb dL_passes_254 (by decide) (by omega) ?_
              refine x_iconst hx hb dL_passes_257 ?_
              refine lv_goto (tgt := 262) hx hb dL_passes_258 (by decide) ?_
              refine lv_istore (lv' := [(18, .int (zI 1)), (17, .int (zI (pasA τ w))), (16, .int (zI 0)), (15, .int (zI (wkA τ k))), (14, .int (zI (τ (11 + 13 * k + 2)))), (13, .int (zI (τ (11 + 13 * k + 1)))), (11, .long (zL (msA τ k))), (10, .int (zI (cpow τ k))), (9, .int (zI (tinA τ k))), (8, .int (zI (τ (11 + 13 * k + 4)))), (7, .int (zI (τ (11 + 13 * k + 3)))), (6, .int (zI (wtA τ k w 1))), (5, .int (zI (wtA τ k w 0))), (4, .int (zI (trS τ (τ 7).toNat))), (3, .int (zI (τ 6))), (0, .ref (a 0)), (1, .int (zI w)), (2, .int (zI k))]) hx hb dL_passes_262 hl (by decide) rfl (fun ls hl => ?_)
              clear hti htr hpa hle eT e3 e4 hkk h8 h10 e6 hk0 hw0
              refine x_ldc2 (v := 6000) hx hb hown (hts (.constantLong RL 48 (zL 6000)) (by decide +kernel)) dL_passes_264 ?_
              refine lv_iload hx hb dL_passes_267 (lv_at hl 12 rfl) ?_
              refine lv_iload hx hb dL_passes_269 (lv_at hl 11 rfl) ?_
              refine x_iadd hx hb dL_passes_271 ?_
              refine x_i2l hx hb (by omega) dL_passes_272 ?_
              refine x_lmul hx hb dL_passes_273 ?_
              refine lv_aload_n hx hb dL_passes_274 rfl (lv_at hl 15 rfl) ?_
              refine lv_iload_n hx hb dL_passes_275 rfl (lv_at hl 17 rfl) ?_
              refine x_iconst hx hb dL_passes_276 ?_
              refine x_callVR (As := [.int (zI k), .int (zI 2)]) (rest := [.long (zL (6000 * ((wtA τ k w 0) + (wtA τ k w 1))))]) S hK (p_of_2 l D cs a (elF τ w) pd ln k (by first | exact hG | exact hG2) (by first | exact hk | exact hk2)) (cwV 2 hts gL_passes_X6_of rfl rfl rfl (by decide +kernel) ⟨(Nat.le_of_ble_eq_true rfl), (Nat.le_of_ble_eq_true rfl)⟩) (PW_rc hK hW) hW rfl hl.1 (Nat.le_of_ble_eq_true rfl) dL_passes_277 ⟨Nat.zero_le _, Nat.zero_le _⟩ ?_
              refine x_i2l hx hb (by omega) dL_passes_280 ?_
              refine x_ladd hx hb dL_passes_281 ?_
              refine lv_iload hx hb dL_passes_282 (lv_at hl 5 rfl) ?_
              refine x_i2l hx hb (by omega) dL_passes_284 ?_
              refine x_lsub hx hb dL_passes_285 ?_
              refine lv_lstore (lv' := [(19, .long (zL (((6000 * ((wtA τ k w 0) + (wtA τ k w 1))) + ((elF τ w) (11 + 13 * k + 1))) - (τ (11 + 13 * k + 1))))), (18, .int (zI 1)), (17, .int (zI (pasA τ w))), (16, .int (zI 0)), (15, .int (zI (wkA τ k))), (14, .int (zI (τ (11 + 13 * k + 2)))), (13, .int (zI (τ (11 + 13 * k + 1)))), (11, .long (zL (msA τ k))), (10, .int (zI (cpow τ k))), (9, .int (zI (tinA τ k))), (8, .int (zI (τ (11 + 13 * k + 4)))), (7, .int (zI (τ (11 + 13 * k + 3)))), (6, .int (zI (wtA τ k w 1))), (5, .int (zI (wtA τ k w 0))), (4, .int (zI (trS τ (τ 7).toNat))), (3, .int (zI (τ 6))), (0, .ref (a 0)), (1, .int (zI w)), (2, .int (zI k))]) hx hb dL_passes_286 hl (by decide) rfl (fun ls hl => ?_)
              refine lv_iload hx hb dL_passes_288 (lv_at hl 1 rfl) ?_
              refine x_if_eq (tgt := 325) hx hb dL_passes_290 (by decide) (by decide) (fun q => absurd q (by decide)) (fun _ => ?_)
              refine lv_aload_n hx hb dL_passes_293 rfl (lv_at hl 16 rfl) ?_
              refine lv_iload_n hx hb dL_passes_294 rfl (lv_at hl 18 rfl) ?_
              refine x_callVR (As := [.int (zI k)]) (rest := []) S hK (p_misses l D cs a (elF τ w) pd ln k (by first | exact hG | exact hG2) (by first | exact hk | exact hk2)) (cwV 1 hts gL_passes_X6_misses rfl rfl rfl (by decide +kernel) ⟨(Nat.le_of_ble_eq_true rfl), (Nat.le_of_ble_eq_true rfl)⟩) (PW_rc hK hW) hW rfl hl.1 (Nat.le_of_ble_eq_true rfl) dL_passes_295 ⟨Nat.zero_le _, Nat.zero_le _⟩ ?_
              refine lv_lload hx hb dL_passes_298 (lv_at hl 7 rfl) ?_
              refine lv_iload hx hb dL_passes_300 (lv_at hl 8 rfl) ?_
              refine x_i2l hx hb (by omega) dL_passes_302 ?_
              refine lv_iload_n hx hb dL_passes_303 rfl (lv_at hl 17 rfl) ?_
              refine x_i2l hx hb (by omega) dL_passes_304 ?_
              refine x_lmul hx hb dL_passes_305 ?_
              refine x_ladd hx hb dL_passes_306 ?_
              refine lv_lload hx hb dL_passes_307 (lv_at hl 0 rfl) ?_
              refine x_lsub hx hb dL_passes_309 ?_
              refine x_lcmp_neE (tgt := 325) hx hb dL_passes_310 dL_passes_311 (by decide) (by omega) ?_
              refine lv_lload hx hb dL_passes_314 (lv_at hl 0 rfl) ?_
              refine x_lconst (v := 0) hx hb dL_passes_316 rfl ?_
              refine x_lcmp_lt (tgt := 325) hx hb dL_passes_317 dL_passes_318 (by decide) (by omega) (by omega) (fun c_317 => ?_) (fun c_317 => ?_)
              · exfalso; omega
              · refine x_iconst hx hb dL_passes_321 ?_
                refine lv_goto (tgt := 326) hx hb dL_passes_322 (by decide) ?_
                refine lv_istore (lv' := [(18, .int (zI 1)), (19, .long (zL (((6000 * ((wtA τ k w 0) + (wtA τ k w 1))) + ((elF τ w) (11 + 13 * k + 1))) - (τ (11 + 13 * k + 1))))), (17, .int (zI (pasA τ w))), (16, .int (zI 0)), (15, .int (zI (wkA τ k))), (14, .int (zI (τ (11 + 13 * k + 2)))), (13, .int (zI (τ (11 + 13 * k + 1)))), (11, .long (zL (msA τ k))), (10, .int (zI (cpow τ k))), (9, .int (zI (tinA τ k))), (8, .int (zI (τ (11 + 13 * k + 4)))), (7, .int (zI (τ (11 + 13 * k + 3)))), (6, .int (zI (wtA τ k w 1))), (5, .int (zI (wtA τ k w 0))), (4, .int (zI (trS τ (τ 7).toNat))), (3, .int (zI (τ 6))), (0, .ref (a 0)), (1, .int (zI w)), (2, .int (zI k))]) hx hb dL_passes_326 hl (by decide) rfl (fun ls hl => ?_)
                refine lv_iload hx hb dL_passes_328 (lv_at hl 8 rfl) ?_
                refine x_if_le (tgt := 344) hx hb dL_passes_330 (by decide) (by omega) (fun c_330 => ?_) (fun c_330 => ?_)
                · refine lv_iload hx hb dL_passes_344 (lv_at hl 8 rfl) ?_
                  refine x_if_ne (tgt := 381) hx hb dL_passes_346 (by decide) (by omega) (fun c_346 => ?_) (fun c_346 => ?_)
                  · exfalso; omega
                  · refine lv_iload hx hb dL_passes_349 (lv_at hl 3 rfl) ?_
                    refine x_if_ne (tgt := 363) hx hb dL_passes_351 (by decide) (by decide) (fun q => absurd q (by decide)) (fun _ => ?_)
                    refine lv_aload_n hx hb dL_passes_354 rfl (lv_at hl 16 rfl) ?_
                    refine x_bipush hx hb dL_passes_355 (by decide +kernel) ?_
                    refine x_callVR (As := [.int (zI 10)]) (rest := []) S hK (p_count_10 l D cs a (elF τ w) pd ln (by first | exact hG | exact hG2)) (cwV 1 hts gL_passes_X6_count rfl rfl rfl (by decide +kernel) ⟨(Nat.le_of_ble_eq_true rfl), (Nat.le_of_ble_eq_true rfl)⟩) (PW_rc hK hW) hW rfl hl.1 (Nat.le_of_ble_eq_true rfl) dL_passes_357 ⟨Nat.zero_le _, Nat.zero_le _⟩ ?_
                    refine x_if_ne (tgt := 381) hx hb dL_passes_360 (by decide) (by omega) (fun c_360 => ?_) (fun c_360 => ?_)
                    · refine lv_iload hx hb dL_passes_381 (lv_at hl 8 rfl) ?_
                      refine x_if_le (tgt := 455) hx hb dL_passes_383 (by decide) (by omega) (fun c_383 => ?_) (fun c_383 => ?_)
                      · have fC2 := fC (by omega) c_145
                        have eC : elF τ w 1 * w = τ 1 * w := by rw [eL1]
                        have hcr : 0 ≤ τ 1 * w ∧ τ 1 * w ≤ 9 * 1000 := ⟨Int.mul_nonneg (by omega) (by omega), Int.mul_le_mul hss.2.1.2 hw.2 (by omega) (by omega)⟩
                        refine lv_iload hx hb dL_passes_455 (lv_at hl 0 rfl) ?_
                        refine x_if_eq (tgt := 529) hx hb dL_passes_457 (by decide) (by decide) (fun q => absurd q (by decide)) (fun _ => ?_)
                        refine lv_lload hx hb dL_passes_460 (lv_at hl 1 rfl) ?_
                        refine lv_aload_n hx hb dL_passes_462 rfl (lv_at hl 16 rfl) ?_
                        refine x_bipush hx hb dL_passes_463 (by decide +kernel) ?_
                        refine x_callVR (As := [.int (zI 10)]) (rest := [.long (zL (((6000 * ((wtA τ k w 0) + (wtA τ k w 1))) + ((elF τ w) (11 + 13 * k + 1))) - (τ (11 + 13 * k + 1))))]) S hK (p_count_10 l D cs a (elF τ w) pd ln (by first | exact hG | exact hG2)) (cwV 1 hts gL_passes_X6_count rfl rfl rfl (by decide +kernel) ⟨(Nat.le_of_ble_eq_true rfl), (Nat.le_of_ble_eq_true rfl)⟩) (PW_rc hK hW) hW rfl hl.1 (Nat.le_of_ble_eq_true rfl) dL_passes_465 ⟨Nat.zero_le _, Nat.zero_le _⟩ ?_
                        refine x_i2l hx hb (by omega) dL_passes_468 ?_
                        refine lv_iload_n hx hb dL_passes_469 rfl (lv_at hl 17 rfl) ?_
                        refine x_i2l hx hb (by omega) dL_passes_470 ?_
                        refine x_lmul hx hb dL_passes_471 ?_
                        refine x_lcmp_gt (tgt := 529) hx hb dL_passes_472 dL_passes_473 (by decide) (by omega) (by omega) (fun c_472 => ?_) (fun c_472 => ?_)
                        · exfalso; omega
                        · refine lv_aload_n hx hb dL_passes_476 rfl (lv_at hl 16 rfl) ?_
                          refine x_bipush hx hb dL_passes_477 (by decide +kernel) ?_
                          refine x_callVR (As := [.int (zI 11)]) (rest := []) S hK (p_count_11 l D cs a (elF τ w) pd ln (by first | exact hG | exact hG2)) (cwV 1 hts gL_passes_X6_count rfl rfl rfl (by decide +kernel) ⟨(Nat.le_of_ble_eq_true rfl), (Nat.le_of_ble_eq_true rfl)⟩) (PW_rc hK hW) hW rfl hl.1 (Nat.le_of_ble_eq_true rfl) dL_passes_479 ⟨Nat.zero_le _, Nat.zero_le _⟩ ?_
                          refine x_if_ne (tgt := 504) hx hb dL_passes_482 (by decide) (by omega) (fun c_482 => ?_) (fun c_482 => ?_)
                          · refine lv_lload hx hb dL_passes_504 (lv_at hl 1 rfl) ?_
                            refine x_ldc2 (v := 6000) hx hb hown (hts (.constantLong RL 48 (zL 6000)) (by decide +kernel)) dL_passes_506 ?_
                            refine x_lcmp_gt (tgt := 529) hx hb dL_passes_509 dL_passes_510 (by decide) (by omega) (by omega) (fun c_509 => ?_) (fun c_509 => ?_)
                            · exfalso; omega
                            · refine lv_iload hx hb dL_passes_513 (lv_at hl 6 rfl) ?_
                              refine x_if_gt (tgt := 525) hx hb dL_passes_515 (by decide) (by omega) (fun c_515 => ?_) (fun c_515 => ?_)
                              · refine x_iconst hx hb dL_passes_525 ?_
                                refine lv_goto (tgt := 530) hx hb dL_passes_526 (by decide) ?_
                                exact x_zretM hx hb hr hlocks (by first | rfl | omega) (by exact Or.inr rfl) hW hS dL_passes_530
                              · refine lv_lload hx hb dL_passes_518 (lv_at hl 1 rfl) ?_
                                refine x_lconst (v := 0) hx hb dL_passes_520 rfl ?_
                                refine x_lcmp_neE (tgt := 529) hx hb dL_passes_521 dL_passes_522 (by decide) (by omega) ?_
                                refine x_iconst hx hb dL_passes_525 ?_
                                refine lv_goto (tgt := 530) hx hb dL_passes_526 (by decide) ?_
                                exact x_zretM hx hb hr hlocks (by first | rfl | omega) (by exact Or.inr rfl) hW hS dL_passes_530
                          · refine lv_lload hx hb dL_passes_485 (lv_at hl 1 rfl) ?_
                            refine lv_aload_n hx hb dL_passes_487 rfl (lv_at hl 16 rfl) ?_
                            refine x_bipush hx hb dL_passes_488 (by decide +kernel) ?_
                            refine x_callVR (As := [.int (zI 10)]) (rest := [.long (zL (((6000 * ((wtA τ k w 0) + (wtA τ k w 1))) + ((elF τ w) (11 + 13 * k + 1))) - (τ (11 + 13 * k + 1))))]) S hK (p_count_10 l D cs a (elF τ w) pd ln (by first | exact hG | exact hG2)) (cwV 1 hts gL_passes_X6_count rfl rfl rfl (by decide +kernel) ⟨(Nat.le_of_ble_eq_true rfl), (Nat.le_of_ble_eq_true rfl)⟩) (PW_rc hK hW) hW rfl hl.1 (Nat.le_of_ble_eq_true rfl) dL_passes_490 ⟨Nat.zero_le _, Nat.zero_le _⟩ ?_
                            refine x_i2l hx hb (by omega) dL_passes_493 ?_
                            refine lv_iload_n hx hb dL_passes_494 rfl (lv_at hl 17 rfl) ?_
                            refine x_i2l hx hb (by omega) dL_passes_495 ?_
                            refine x_lmul hx hb dL_passes_496 ?_
                            refine x_lcmp_neE (tgt := 529) hx hb dL_passes_497 dL_passes_498 (by decide) (by omega) ?_
                            refine lv_goto (tgt := 525) hx hb dL_passes_501 (by decide) ?_
                            refine x_iconst hx hb dL_passes_525 ?_
                            refine lv_goto (tgt := 530) hx hb dL_passes_526 (by decide) ?_
                            exact x_zretM hx hb hr hlocks (by first | rfl | omega) (by exact Or.inr rfl) hW hS dL_passes_530
                      · exfalso; omega
                    · refine lv_iload hx hb dL_passes_363 (lv_at hl 0 rfl) ?_
                      refine x_if_eq (tgt := 379) hx hb dL_passes_365 (by decide) (by decide) (fun q => absurd q (by decide)) (fun _ => ?_)
                      refine lv_lload hx hb dL_passes_368 (lv_at hl 1 rfl) ?_
                      refine x_lconst (v := 0) hx hb dL_passes_370 rfl ?_
                      refine x_lcmp_neE (tgt := 379) hx hb dL_passes_371 dL_passes_372 (by decide) (by omega) ?_
                      refine x_iconst hx hb dL_passes_375 ?_
                      refine lv_goto (tgt := 380) hx hb dL_passes_376 (by decide) ?_
                      exact x_zretM hx hb hr hlocks (by first | rfl | omega) (by exact Or.inr rfl) hW hS dL_passes_380
                · refine lv_iload hx hb dL_passes_333 (lv_at hl 8 rfl) ?_
                  refine lv_aload_n hx hb dL_passes_335 rfl (lv_at hl 16 rfl) ?_
                  refine x_bipush hx hb dL_passes_336 (by decide +kernel) ?_
                  refine x_callVR (As := [.int (zI 9)]) (rest := [.int (zI (cpow τ k))]) S hK (p_count_9 l D cs a (elF τ w) pd ln (by first | exact hG | exact hG2)) (cwV 1 hts gL_passes_X6_count rfl rfl rfl (by decide +kernel) ⟨(Nat.le_of_ble_eq_true rfl), (Nat.le_of_ble_eq_true rfl)⟩) (PW_rc hK hW) hW rfl hl.1 (Nat.le_of_ble_eq_true rfl) dL_passes_338 ⟨Nat.zero_le _, Nat.zero_le _⟩ ?_
                  refine x_icmp_le (tgt := 363) hx hb dL_passes_341 (by decide) (by omega) (by omega) (fun c_341 => ?_) (fun c_341 => ?_)
                  · refine lv_iload hx hb dL_passes_363 (lv_at hl 0 rfl) ?_
                    refine x_if_eq (tgt := 379) hx hb dL_passes_365 (by decide) (by decide) (fun q => absurd q (by decide)) (fun _ => ?_)
                    refine lv_lload hx hb dL_passes_368 (lv_at hl 1 rfl) ?_
                    refine x_lconst (v := 0) hx hb dL_passes_370 rfl ?_
                    refine x_lcmp_neE (tgt := 379) hx hb dL_passes_371 dL_passes_372 (by decide) (by omega) ?_
                    refine x_iconst hx hb dL_passes_375 ?_
                    refine lv_goto (tgt := 380) hx hb dL_passes_376 (by decide) ?_
                    exact x_zretM hx hb hr hlocks (by first | rfl | omega) (by exact Or.inr rfl) hW hS dL_passes_380
                  · refine lv_iload hx hb dL_passes_344 (lv_at hl 8 rfl) ?_
                    refine x_if_ne (tgt := 381) hx hb dL_passes_346 (by decide) (by omega) (fun c_346 => ?_) (fun c_346 => ?_)
                    · refine lv_iload hx hb dL_passes_381 (lv_at hl 8 rfl) ?_
                      refine x_if_le (tgt := 455) hx hb dL_passes_383 (by decide) (by omega) (fun c_383 => ?_) (fun c_383 => ?_)
                      · exfalso; omega
                      · have hps : 0 ≤ cpow τ k * τ (11 + 13 * k + 2) ∧ cpow τ k * τ (11 + 13 * k + 2) ≤ 48000 * 160 := ⟨Int.mul_nonneg hcp.1 (by omega), Int.mul_le_mul hcp.2 hm.2.1.2 (by omega) (by omega)⟩
                        refine lv_iload hx hb dL_passes_386 (lv_at hl 8 rfl) ?_
                        refine x_i2l hx hb (by omega) dL_passes_388 ?_
                        refine lv_iload hx hb dL_passes_389 (lv_at hl 5 rfl) ?_
                        refine x_i2l hx hb (by omega) dL_passes_391 ?_
                        refine x_lmul hx hb dL_passes_392 ?_
                        refine x_ldc2 (v := 100) hx hb hown (hts (.constantLong RL 50 (zL 100)) (by decide +kernel)) dL_passes_393 ?_
                        refine x_ldiv hx hb (by omega) (by omega) dL_passes_396 ?_
                        refine lv_iload hx hb dL_passes_397 (lv_at hl 3 rfl) ?_
                        refine x_if_eq (tgt := 408) hx hb dL_passes_399 (by decide) (by decide) (fun _ => ?_) (fun q => absurd q (by decide))
                        refine x_lconst (v := 1) hx hb dL_passes_408 rfl ?_
                        refine x_ldiv hx hb (by omega) (by omega) dL_passes_409 ?_
                        refine lv_iload_n hx hb dL_passes_410 rfl (lv_at hl 17 rfl) ?_
                        refine x_i2l hx hb (by omega) dL_passes_411 ?_
                        refine x_lmul hx hb dL_passes_412 ?_
                        have fG2 := fG (by omega)
                        first | rw [stp_b c_145] at fG2 | rw [stp_n c_145] at fG2
                        refine lv_lstore (lv' := [(21, .long (zL (((((cpow τ k) * (τ (11 + 13 * k + 2))) / 100) / 1) * w))), (18, .int (zI 1)), (19, .long (zL (((6000 * ((wtA τ k w 0) + (wtA τ k w 1))) + ((elF τ w) (11 + 13 * k + 1))) - (τ (11 + 13 * k + 1))))), (17, .int (zI (pasA τ w))), (16, .int (zI 0)), (15, .int (zI (wkA τ k))), (14, .int (zI (τ (11 + 13 * k + 2)))), (13, .int (zI (τ (11 + 13 * k + 1)))), (11, .long (zL (msA τ k))), (10, .int (zI (cpow τ k))), (9, .int (zI (tinA τ k))), (8, .int (zI (τ (11 + 13 * k + 4)))), (7, .int (zI (τ (11 + 13 * k + 3)))), (6, .int (zI (wtA τ k w 1))), (5, .int (zI (wtA τ k w 0))), (4, .int (zI (trS τ (τ 7).toNat))), (3, .int (zI (τ 6))), (0, .ref (a 0)), (1, .int (zI w)), (2, .int (zI k))]) hx hb dL_passes_413 hl (by decide) rfl (fun ls hl => ?_)
                        refine lv_iload hx hb dL_passes_415 (lv_at hl 1 rfl) ?_
                        refine x_if_eq (tgt := 453) hx hb dL_passes_417 (by decide) (by decide) (fun q => absurd q (by decide)) (fun _ => ?_)
                        refine lv_lload hx hb dL_passes_420 (lv_at hl 2 rfl) ?_
                        refine lv_lload hx hb dL_passes_422 (lv_at hl 0 rfl) ?_
                        refine x_lcmp_lt (tgt := 453) hx hb dL_passes_424 dL_passes_425 (by decide) (by omega) (by omega) (fun c_424 => ?_) (fun c_424 => ?_)
                        · exfalso; omega
                        · refine lv_iload hx hb dL_passes_428 (lv_at hl 5 rfl) ?_
                          refine x_bipush hx hb dL_passes_430 (by decide +kernel) ?_
                          refine x_icmp_eq (tgt := 441) hx hb dL_passes_432 (by decide) (by omega) (by omega) (fun c_432 => ?_) (fun c_432 => ?_)
                          · refine lv_lload hx hb dL_passes_441 (lv_at hl 2 rfl) ?_
                            refine lv_lload hx hb dL_passes_443 (lv_at hl 0 rfl) ?_
                            refine x_lcmp_neE (tgt := 453) hx hb dL_passes_445 dL_passes_446 (by decide) (by omega) ?_
                            refine x_iconst hx hb dL_passes_449 ?_
                            refine lv_goto (tgt := 454) hx hb dL_passes_450 (by decide) ?_
                            exact x_zretM hx hb hr hlocks (by first | rfl | omega) (by exact Or.inr rfl) hW hS dL_passes_454
                          · refine lv_iload hx hb dL_passes_435 (lv_at hl 5 rfl) ?_
                            refine lv_iload_n hx hb dL_passes_437 rfl (lv_at hl 18 rfl) ?_
                            refine x_icmp_lt (tgt := 449) hx hb dL_passes_438 (by decide) (by omega) (by omega) (fun c_438 => ?_) (fun c_438 => ?_)
                            · refine x_iconst hx hb dL_passes_449 ?_
                              refine lv_goto (tgt := 454) hx hb dL_passes_450 (by decide) ?_
                              exact x_zretM hx hb hr hlocks (by first | rfl | omega) (by exact Or.inr rfl) hW hS dL_passes_454
                            · refine lv_lload hx hb dL_passes_441 (lv_at hl 2 rfl) ?_
                              refine lv_lload hx hb dL_passes_443 (lv_at hl 0 rfl) ?_
                              refine x_lcmp_neE (tgt := 453) hx hb dL_passes_445 dL_passes_446 (by decide) (by omega) ?_
                              refine x_iconst hx hb dL_passes_449 ?_
                              refine lv_goto (tgt := 454) hx hb dL_passes_450 (by decide) ?_
                              exact x_zretM hx hb hr hlocks (by first | rfl | omega) (by exact Or.inr rfl) hW hS dL_passes_454
                    · exfalso; omega
    · refine x_iconst hx hb dL_passes_148 ?_
      refine lv_goto (tgt := 153) hx hb dL_passes_149 (by decide) ?_
      refine lv_istore (lv' := [(16, .int (zI 1)), (15, .int (zI (wkA τ k))), (14, .int (zI (τ (11 + 13 * k + 2)))), (13, .int (zI (τ (11 + 13 * k + 1)))), (11, .long (zL (msA τ k))), (10, .int (zI (cpow τ k))), (9, .int (zI (tinA τ k))), (8, .int (zI (τ (11 + 13 * k + 4)))), (7, .int (zI (τ (11 + 13 * k + 3)))), (6, .int (zI (wtA τ k w 1))), (5, .int (zI (wtA τ k w 0))), (4, .int (zI (trS τ (τ 7).toNat))), (3, .int (zI (τ 6))), (0, .ref (a 0)), (1, .int (zI w)), (2, .int (zI k))]) hx hb dL_passes_153 hl (by decide) rfl (fun ls hl => ?_)
      refine lv_aload_n hx hb dL_passes_155 rfl (lv_at hl 13 rfl) ?_
      refine lv_iload_n hx hb dL_passes_156 rfl (lv_at hl 14 rfl) ?_
      obtain ⟨hG2, e6, e7, eT, eL0, eL1, eL2⟩ := ps_el hG hw0
      obtain ⟨e3, e4, eW, eMS⟩ := ps_k hG hw0 hk
      obtain ⟨eNN, fS, fG, fC⟩ := wen_all hG hw0 hk
      have hk2 : 0 ≤ k ∧ k < elF τ w 7 := by omega
      have hm2 := gd_m hG2 hk2
      have hss := gd_s hG
      refine x_callVM (As := [.int (zI w)]) (rest := []) S hK (p_pass l D cs a τ pd ln w (by first | exact hG | exact hG2) (by exact hI) (by first | exact hw0 | omega)) (cwV 1 hts gL_passes_X6_pass rfl rfl rfl (by decide +kernel) ⟨(Nat.le_of_ble_eq_true rfl), (Nat.le_of_ble_eq_true rfl)⟩) (PW_rc hK hW) hW rfl hl.1 (Nat.le_of_ble_eq_true rfl) dL_passes_157 ⟨Nat.zero_le _, Nat.zero_le _⟩ hS (fun q hq => hq) (fun H locs hB hF hS => ?_)
      have hW : PW D cs a (elF τ w) pd ln H := hB
      refine lv_istore (lv' := [(17, .int (zI (pasA τ w))), (16, .int (zI 1)), (15, .int (zI (wkA τ k))), (14, .int (zI (τ (11 + 13 * k + 2)))), (13, .int (zI (τ (11 + 13 * k + 1)))), (11, .long (zL (msA τ k))), (10, .int (zI (cpow τ k))), (9, .int (zI (tinA τ k))), (8, .int (zI (τ (11 + 13 * k + 4)))), (7, .int (zI (τ (11 + 13 * k + 3)))), (6, .int (zI (wtA τ k w 1))), (5, .int (zI (wtA τ k w 0))), (4, .int (zI (trS τ (τ 7).toNat))), (3, .int (zI (τ 6))), (0, .ref (a 0)), (1, .int (zI w)), (2, .int (zI k))]) hx hb dL_passes_160 hl (by decide) rfl (fun ls hl => ?_)
      refine lv_iload hx hb dL_passes_162 (lv_at hl 0 rfl) ?_
      refine lv_iload hx hb dL_passes_164 (lv_at hl 11 rfl) ?_
      refine lv_iload hx hb dL_passes_166 (lv_at hl 10 rfl) ?_
      refine x_iadd hx hb dL_passes_168 ?_
      refine x_icmp_lt (tgt := 261) hx hb dL_passes_169 (by decide) (by omega) (by omega) (fun c_169 => ?_) (fun c_169 => ?_)
      · exfalso; omega
      · refine lv_aload_n hx hb dL_passes_172 rfl (lv_at hl 14 rfl) ?_
        refine x_bipush hx hb dL_passes_173 (by decide +kernel) ?_
        refine x_callVR (As := [.int (zI 6)]) (rest := []) S hK (p_count_6 l D cs a (elF τ w) pd ln (by first | exact hG | exact hG2)) (cwV 1 hts gL_passes_X6_count rfl rfl rfl (by decide +kernel) ⟨(Nat.le_of_ble_eq_true rfl), (Nat.le_of_ble_eq_true rfl)⟩) (PW_rc hK hW) hW rfl hl.1 (Nat.le_of_ble_eq_true rfl) dL_passes_175 ⟨Nat.zero_le _, Nat.zero_le _⟩ ?_
        refine lv_iload hx hb dL_passes_178 (lv_at hl 12 rfl) ?_
        refine lv_iload hx hb dL_passes_180 (lv_at hl 0 rfl) ?_
        refine x_iadd hx hb dL_passes_182 ?_
        refine x_icmp_neE (tgt := 261) hx hb dL_passes_183 (by decide) (by omega) ?_
        refine lv_aload_n hx hb dL_passes_186 rfl (lv_at hl 14 rfl) ?_
        refine lv_iload_n hx hb dL_passes_187 rfl (lv_at hl 16 rfl) ?_
        refine x_iconst hx hb dL_passes_188 ?_
        refine x_callVR (As := [.int (zI k), .int (zI 4)]) (rest := []) S hK (p_of_4 l D cs a (elF τ w) pd ln k (by first | exact hG | exact hG2) (by first | exact hk | exact hk2)) (cwV 2 hts gL_passes_X6_of rfl rfl rfl (by decide +kernel) ⟨(Nat.le_of_ble_eq_true rfl), (Nat.le_of_ble_eq_true rfl)⟩) (PW_rc hK hW) hW rfl hl.1 (Nat.le_of_ble_eq_true rfl) dL_passes_189 ⟨Nat.zero_le _, Nat.zero_le _⟩ ?_
        refine lv_iload hx hb dL_passes_192 (lv_at hl 9 rfl) ?_
        refine lv_iload hx hb dL_passes_194 (lv_at hl 11 rfl) ?_
        refine x_iadd hx hb dL_passes_196 ?_
        refine x_icmp_neE (tgt := 261) hx hb dL_passes_197 (by decide) (by omega) ?_
        refine lv_aload_n hx hb dL_passes_200 rfl (lv_at hl 14 rfl) ?_
        refine lv_iload_n hx hb dL_passes_201 rfl (lv_at hl 16 rfl) ?_
        refine x_iconst hx hb dL_passes_202 ?_
        refine x_callVR (As := [.int (zI k), .int (zI 5)]) (rest := []) S hK (p_of_5 l D cs a (elF τ w) pd ln k (by first | exact hG | exact hG2) (by first | exact hk | exact hk2)) (cwV 2 hts gL_passes_X6_of rfl rfl rfl (by decide +kernel) ⟨(Nat.le_of_ble_eq_true rfl), (Nat.le_of_ble_eq_true rfl)⟩) (PW_rc hK hW) hW rfl hl.1 (Nat.le_of_ble_eq_true rfl) dL_passes_203 ⟨Nat.zero_le _, Nat.zero_le _⟩ ?_
        refine lv_iload hx hb dL_passes_206 (lv_at hl 8 rfl) ?_
        refine lv_iload hx hb dL_passes_208 (lv_at hl 10 rfl) ?_
        refine x_iadd hx hb dL_passes_210 ?_
        refine x_icmp_neE (tgt := 261) hx hb dL_passes_211 (by decide) (by omega) ?_
        refine lv_iload hx hb dL_passes_214 (lv_at hl 11 rfl) ?_
        refine lv_iload hx hb dL_passes_216 (lv_at hl 10 rfl) ?_
        refine x_iadd hx hb dL_passes_218 ?_
        refine x_if_le (tgt := 226) hx hb dL_passes_219 (by decide) (by omega) (fun c_219 => ?_) (fun c_219 => ?_)
        · refine x_iconst hx hb dL_passes_226 ?_
          refine lv_iload hx hb dL_passes_227 (lv_at hl 7 rfl) ?_
          refine x_if_le (tgt := 242) hx hb dL_passes_229 (by decide) (by omega) (fun c_229 => ?_) (fun c_229 => ?_)
          · refine x_iconst hx hb dL_passes_242 ?_
            refine x_icmp_ne (tgt := 261) hx hb dL_passes_243 (by decide) (by decide) (by decide) (fun q => absurd q (by decide)) (fun _ => ?_)
            refine lv_aload_n hx hb dL_passes_246 rfl (lv_at hl 14 rfl) ?_
            refine x_iconst hx hb dL_passes_247 ?_
            refine x_callVR (As := [.int (zI 0)]) (rest := []) S hK (p_count_0 l D cs a (elF τ w) pd ln (by first | exact hG | exact hG2)) (cwV 1 hts gL_passes_X6_count rfl rfl rfl (by decide +kernel) ⟨(Nat.le_of_ble_eq_true rfl), (Nat.le_of_ble_eq_true rfl)⟩) (PW_rc hK hW) hW rfl hl.1 (Nat.le_of_ble_eq_true rfl) dL_passes_248 ⟨Nat.zero_le _, Nat.zero_le _⟩ ?_
            refine lv_iload_n hx hb dL_passes_251 rfl (lv_at hl 13 rfl) ?_
            refine lv_iload_n hx hb dL_passes_252 rfl (lv_at hl 15 rfl) ?_
            refine x_iadd hx hb dL_passes_253 ?_
            refine x_icmp_neE (tgt := 261) hx hb dL_passes_254 (by decide) (by omega) ?_
            refine x_iconst hx hb dL_passes_257 ?_
            refine lv_goto (tgt := 262) hx hb dL_passes_258 (by decide) ?_
            refine lv_istore (lv' := [(18, .int (zI 1)), (17, .int (zI (pasA τ w))), (16, .int (zI 1)), (15, .int (zI (wkA τ k))), (14, .int (zI (τ (11 + 13 * k + 2)))), (13, .int (zI (τ (11 + 13 * k + 1)))), (11, .long (zL (msA τ k))), (10, .int (zI (cpow τ k))), (9, .int (zI (tinA τ k))), (8, .int (zI (τ (11 + 13 * k + 4)))), (7, .int (zI (τ (11 + 13 * k + 3)))), (6, .int (zI (wtA τ k w 1))), (5, .int (zI (wtA τ k w 0))), (4, .int (zI (trS τ (τ 7).toNat))), (3, .int (zI (τ 6))), (0, .ref (a 0)), (1, .int (zI w)), (2, .int (zI k))]) hx hb dL_passes_262 hl (by decide) rfl (fun ls hl => ?_)
            clear hti htr hpa hle eT e3 e4 hkk h8 h10 e6 hk0 hw0
            refine x_ldc2 (v := 6000) hx hb hown (hts (.constantLong RL 48 (zL 6000)) (by decide +kernel)) dL_passes_264 ?_
            refine lv_iload hx hb dL_passes_267 (lv_at hl 12 rfl) ?_
            refine lv_iload hx hb dL_passes_269 (lv_at hl 11 rfl) ?_
            refine x_iadd hx hb dL_passes_271 ?_
            refine x_i2l hx hb (by omega) dL_passes_272 ?_
            refine x_lmul hx hb dL_passes_273 ?_
            refine lv_aload_n hx hb dL_passes_274 rfl (lv_at hl 15 rfl) ?_
            refine lv_iload_n hx hb dL_passes_275 rfl (lv_at hl 17 rfl) ?_
            refine x_iconst hx hb dL_passes_276 ?_
            refine x_callVR (As := [.int (zI k), .int (zI 2)]) (rest := [.long (zL (6000 * ((wtA τ k w 0) + (wtA τ k w 1))))]) S hK (p_of_2 l D cs a (elF τ w) pd ln k (by first | exact hG | exact hG2) (by first | exact hk | exact hk2)) (cwV 2 hts gL_passes_X6_of rfl rfl rfl (by decide +kernel) ⟨(Nat.le_of_ble_eq_true rfl), (Nat.le_of_ble_eq_true rfl)⟩) (PW_rc hK hW) hW rfl hl.1 (Nat.le_of_ble_eq_true rfl) dL_passes_277 ⟨Nat.zero_le _, Nat.zero_le _⟩ ?_
            refine x_i2l hx hb (by omega) dL_passes_280 ?_
            refine x_ladd hx hb dL_passes_281 ?_
            refine lv_iload hx hb dL_passes_282 (lv_at hl 5 rfl) ?_
            refine x_i2l hx hb (by omega) dL_passes_284 ?_
            refine x_lsub hx hb dL_passes_285 ?_
            refine lv_lstore (lv' := [(19, .long (zL (((6000 * ((wtA τ k w 0) + (wtA τ k w 1))) + ((elF τ w) (11 + 13 * k + 1))) - (τ (11 + 13 * k + 1))))), (18, .int (zI 1)), (17, .int (zI (pasA τ w))), (16, .int (zI 1)), (15, .int (zI (wkA τ k))), (14, .int (zI (τ (11 + 13 * k + 2)))), (13, .int (zI (τ (11 + 13 * k + 1)))), (11, .long (zL (msA τ k))), (10, .int (zI (cpow τ k))), (9, .int (zI (tinA τ k))), (8, .int (zI (τ (11 + 13 * k + 4)))), (7, .int (zI (τ (11 + 13 * k + 3)))), (6, .int (zI (wtA τ k w 1))), (5, .int (zI (wtA τ k w 0))), (4, .int (zI (trS τ (τ 7).toNat))), (3, .int (zI (τ 6))), (0, .ref (a 0)), (1, .int (zI w)), (2, .int (zI k))]) hx hb dL_passes_286 hl (by decide) rfl (fun ls hl => ?_)
            refine lv_iload hx hb dL_passes_288 (lv_at hl 1 rfl) ?_
            refine x_if_eq (tgt := 325) hx hb dL_passes_290 (by decide) (by decide) (fun q => absurd q (by decide)) (fun _ => ?_)
            refine lv_aload_n hx hb dL_passes_293 rfl (lv_at hl 16 rfl) ?_
            refine lv_iload_n hx hb dL_passes_294 rfl (lv_at hl 18 rfl) ?_
            refine x_callVR (As := [.int (zI k)]) (rest := []) S hK (p_misses l D cs a (elF τ w) pd ln k (by first | exact hG | exact hG2) (by first | exact hk | exact hk2)) (cwV 1 hts gL_passes_X6_misses rfl rfl rfl (by decide +kernel) ⟨(Nat.le_of_ble_eq_true rfl), (Nat.le_of_ble_eq_true rfl)⟩) (PW_rc hK hW) hW rfl hl.1 (Nat.le_of_ble_eq_true rfl) dL_passes_295 ⟨Nat.zero_le _, Nat.zero_le _⟩ ?_
            refine lv_lload hx hb dL_passes_298 (lv_at hl 7 rfl) ?_
            refine lv_iload hx hb dL_passes_300 (lv_at hl 8 rfl) ?_
            refine x_i2l hx hb (by omega) dL_passes_302 ?_
            refine lv_iload_n hx hb dL_passes_303 rfl (lv_at hl 17 rfl) ?_
            refine x_i2l hx hb (by omega) dL_passes_304 ?_
            refine x_lmul hx hb dL_passes_305 ?_
            refine x_ladd hx hb dL_passes_306 ?_
            refine lv_lload hx hb dL_passes_307 (lv_at hl 0 rfl) ?_
            refine x_lsub hx hb dL_passes_309 ?_
            refine x_lcmp_neE (tgt := 325) hx hb dL_passes_310 dL_passes_311 (by decide) (by omega) ?_
            refine lv_lload hx hb dL_passes_314 (lv_at hl 0 rfl) ?_
            refine x_lconst (v := 0) hx hb dL_passes_316 rfl ?_
            refine x_lcmp_lt (tgt := 325) hx hb dL_passes_317 dL_passes_318 (by decide) (by omega) (by omega) (fun c_317 => ?_) (fun c_317 => ?_)
            · exfalso; omega
            · refine x_iconst hx hb dL_passes_321 ?_
              refine lv_goto (tgt := 326) hx hb dL_passes_322 (by decide) ?_
              refine lv_istore (lv' := [(18, .int (zI 1)), (19, .long (zL (((6000 * ((wtA τ k w 0) + (wtA τ k w 1))) + ((elF τ w) (11 + 13 * k + 1))) - (τ (11 + 13 * k + 1))))), (17, .int (zI (pasA τ w))), (16, .int (zI 1)), (15, .int (zI (wkA τ k))), (14, .int (zI (τ (11 + 13 * k + 2)))), (13, .int (zI (τ (11 + 13 * k + 1)))), (11, .long (zL (msA τ k))), (10, .int (zI (cpow τ k))), (9, .int (zI (tinA τ k))), (8, .int (zI (τ (11 + 13 * k + 4)))), (7, .int (zI (τ (11 + 13 * k + 3)))), (6, .int (zI (wtA τ k w 1))), (5, .int (zI (wtA τ k w 0))), (4, .int (zI (trS τ (τ 7).toNat))), (3, .int (zI (τ 6))), (0, .ref (a 0)), (1, .int (zI w)), (2, .int (zI k))]) hx hb dL_passes_326 hl (by decide) rfl (fun ls hl => ?_)
              refine lv_iload hx hb dL_passes_328 (lv_at hl 8 rfl) ?_
              refine x_if_le (tgt := 344) hx hb dL_passes_330 (by decide) (by omega) (fun c_330 => ?_) (fun c_330 => ?_)
              · refine lv_iload hx hb dL_passes_344 (lv_at hl 8 rfl) ?_
                refine x_if_ne (tgt := 381) hx hb dL_passes_346 (by decide) (by omega) (fun c_346 => ?_) (fun c_346 => ?_)
                · exfalso; omega
                · refine lv_iload hx hb dL_passes_349 (lv_at hl 3 rfl) ?_
                  refine x_if_ne (tgt := 363) hx hb dL_passes_351 (by decide) (by decide) (fun _ => ?_) (fun q => absurd q (by decide))
                  refine lv_iload hx hb dL_passes_363 (lv_at hl 0 rfl) ?_
                  refine x_if_eq (tgt := 379) hx hb dL_passes_365 (by decide) (by decide) (fun q => absurd q (by decide)) (fun _ => ?_)
                  refine lv_lload hx hb dL_passes_368 (lv_at hl 1 rfl) ?_
                  refine x_lconst (v := 0) hx hb dL_passes_370 rfl ?_
                  refine x_lcmp_neE (tgt := 379) hx hb dL_passes_371 dL_passes_372 (by decide) (by omega) ?_
                  refine x_iconst hx hb dL_passes_375 ?_
                  refine lv_goto (tgt := 380) hx hb dL_passes_376 (by decide) ?_
                  exact x_zretM hx hb hr hlocks (by first | rfl | omega) (by exact Or.inr rfl) hW hS dL_passes_380
              · refine lv_iload hx hb dL_passes_333 (lv_at hl 8 rfl) ?_
                refine lv_aload_n hx hb dL_passes_335 rfl (lv_at hl 16 rfl) ?_
                refine x_bipush hx hb dL_passes_336 (by decide +kernel) ?_
                refine x_callVR (As := [.int (zI 9)]) (rest := [.int (zI (cpow τ k))]) S hK (p_count_9 l D cs a (elF τ w) pd ln (by first | exact hG | exact hG2)) (cwV 1 hts gL_passes_X6_count rfl rfl rfl (by decide +kernel) ⟨(Nat.le_of_ble_eq_true rfl), (Nat.le_of_ble_eq_true rfl)⟩) (PW_rc hK hW) hW rfl hl.1 (Nat.le_of_ble_eq_true rfl) dL_passes_338 ⟨Nat.zero_le _, Nat.zero_le _⟩ ?_
                refine x_icmp_le (tgt := 363) hx hb dL_passes_341 (by decide) (by omega) (by omega) (fun c_341 => ?_) (fun c_341 => ?_)
                · refine lv_iload hx hb dL_passes_363 (lv_at hl 0 rfl) ?_
                  refine x_if_eq (tgt := 379) hx hb dL_passes_365 (by decide) (by decide) (fun q => absurd q (by decide)) (fun _ => ?_)
                  refine lv_lload hx hb dL_passes_368 (lv_at hl 1 rfl) ?_
                  refine x_lconst (v := 0) hx hb dL_passes_370 rfl ?_
                  refine x_lcmp_neE (tgt := 379) hx hb dL_passes_371 dL_passes_372 (by decide) (by omega) ?_
                  refine x_iconst hx hb dL_passes_375 ?_
                  refine lv_goto (tgt := 380) hx hb dL_passes_376 (by decide) ?_
                  exact x_zretM hx hb hr hlocks (by first | rfl | omega) (by exact Or.inr rfl) hW hS dL_passes_380
                · refine lv_iload hx hb dL_passes_344 (lv_at hl 8 rfl) ?_
                  refine x_if_ne (tgt := 381) hx hb dL_passes_346 (by decide) (by omega) (fun c_346 => ?_) (fun c_346 => ?_)
                  · refine lv_iload hx hb dL_passes_381 (lv_at hl 8 rfl) ?_
                    refine x_if_le (tgt := 455) hx hb dL_passes_383 (by decide) (by omega) (fun c_383 => ?_) (fun c_383 => ?_)
                    · exfalso; omega
                    · have hps : 0 ≤ cpow τ k * τ (11 + 13 * k + 2) ∧ cpow τ k * τ (11 + 13 * k + 2) ≤ 48000 * 160 := ⟨Int.mul_nonneg hcp.1 (by omega), Int.mul_le_mul hcp.2 hm.2.1.2 (by omega) (by omega)⟩
                      refine lv_iload hx hb dL_passes_386 (lv_at hl 8 rfl) ?_
                      refine x_i2l hx hb (by omega) dL_passes_388 ?_
                      refine lv_iload hx hb dL_passes_389 (lv_at hl 5 rfl) ?_
                      refine x_i2l hx hb (by omega) dL_passes_391 ?_
                      refine x_lmul hx hb dL_passes_392 ?_
                      refine x_ldc2 (v := 100) hx hb hown (hts (.constantLong RL 50 (zL 100)) (by decide +kernel)) dL_passes_393 ?_
                      refine x_ldiv hx hb (by omega) (by omega) dL_passes_396 ?_
                      refine lv_iload hx hb dL_passes_397 (lv_at hl 3 rfl) ?_
                      refine x_if_eq (tgt := 408) hx hb dL_passes_399 (by decide) (by decide) (fun q => absurd q (by decide)) (fun _ => ?_)
                      refine x_ldc2 (v := 2) hx hb hown (hts (.constantLong RL 52 (zL 2)) (by decide +kernel)) dL_passes_402 ?_
                      refine lv_goto (tgt := 409) hx hb dL_passes_405 (by decide) ?_
                      refine x_ldiv hx hb (by omega) (by omega) dL_passes_409 ?_
                      refine lv_iload_n hx hb dL_passes_410 rfl (lv_at hl 17 rfl) ?_
                      refine x_i2l hx hb (by omega) dL_passes_411 ?_
                      refine x_lmul hx hb dL_passes_412 ?_
                      have fG2 := fG (by omega)
                      first | rw [stp_b c_145] at fG2 | rw [stp_n c_145] at fG2
                      refine lv_lstore (lv' := [(21, .long (zL (((((cpow τ k) * (τ (11 + 13 * k + 2))) / 100) / 2) * w))), (18, .int (zI 1)), (19, .long (zL (((6000 * ((wtA τ k w 0) + (wtA τ k w 1))) + ((elF τ w) (11 + 13 * k + 1))) - (τ (11 + 13 * k + 1))))), (17, .int (zI (pasA τ w))), (16, .int (zI 1)), (15, .int (zI (wkA τ k))), (14, .int (zI (τ (11 + 13 * k + 2)))), (13, .int (zI (τ (11 + 13 * k + 1)))), (11, .long (zL (msA τ k))), (10, .int (zI (cpow τ k))), (9, .int (zI (tinA τ k))), (8, .int (zI (τ (11 + 13 * k + 4)))), (7, .int (zI (τ (11 + 13 * k + 3)))), (6, .int (zI (wtA τ k w 1))), (5, .int (zI (wtA τ k w 0))), (4, .int (zI (trS τ (τ 7).toNat))), (3, .int (zI (τ 6))), (0, .ref (a 0)), (1, .int (zI w)), (2, .int (zI k))]) hx hb dL_passes_413 hl (by decide) rfl (fun ls hl => ?_)
                      refine lv_iload hx hb dL_passes_415 (lv_at hl 1 rfl) ?_
                      refine x_if_eq (tgt := 453) hx hb dL_passes_417 (by decide) (by decide) (fun q => absurd q (by decide)) (fun _ => ?_)
                      refine lv_lload hx hb dL_passes_420 (lv_at hl 2 rfl) ?_
                      refine lv_lload hx hb dL_passes_422 (lv_at hl 0 rfl) ?_
                      refine x_lcmp_lt (tgt := 453) hx hb dL_passes_424 dL_passes_425 (by decide) (by omega) (by omega) (fun c_424 => ?_) (fun c_424 => ?_)
                      · exfalso; omega
                      · refine lv_iload hx hb dL_passes_428 (lv_at hl 5 rfl) ?_
                        refine x_bipush hx hb dL_passes_430 (by decide +kernel) ?_
                        refine x_icmp_eq (tgt := 441) hx hb dL_passes_432 (by decide) (by omega) (by omega) (fun c_432 => ?_) (fun c_432 => ?_)
                        · refine lv_lload hx hb dL_passes_441 (lv_at hl 2 rfl) ?_
                          refine lv_lload hx hb dL_passes_443 (lv_at hl 0 rfl) ?_
                          refine x_lcmp_neE (tgt := 453) hx hb dL_passes_445 dL_passes_446 (by decide) (by omega) ?_
                          refine x_iconst hx hb dL_passes_449 ?_
                          refine lv_goto (tgt := 454) hx hb dL_passes_450 (by decide) ?_
                          exact x_zretM hx hb hr hlocks (by first | rfl | omega) (by exact Or.inr rfl) hW hS dL_passes_454
                        · refine lv_iload hx hb dL_passes_435 (lv_at hl 5 rfl) ?_
                          refine lv_iload_n hx hb dL_passes_437 rfl (lv_at hl 18 rfl) ?_
                          refine x_icmp_lt (tgt := 449) hx hb dL_passes_438 (by decide) (by omega) (by omega) (fun c_438 => ?_) (fun c_438 => ?_)
                          · refine x_iconst hx hb dL_passes_449 ?_
                            refine lv_goto (tgt := 454) hx hb dL_passes_450 (by decide) ?_
                            exact x_zretM hx hb hr hlocks (by first | rfl | omega) (by exact Or.inr rfl) hW hS dL_passes_454
                          · refine lv_lload hx hb dL_passes_441 (lv_at hl 2 rfl) ?_
                            refine lv_lload hx hb dL_passes_443 (lv_at hl 0 rfl) ?_
                            refine x_lcmp_neE (tgt := 453) hx hb dL_passes_445 dL_passes_446 (by decide) (by omega) ?_
                            refine x_iconst hx hb dL_passes_449 ?_
                            refine lv_goto (tgt := 454) hx hb dL_passes_450 (by decide) ?_
                            exact x_zretM hx hb hr hlocks (by first | rfl | omega) (by exact Or.inr rfl) hW hS dL_passes_454
                  · exfalso; omega
          · refine lv_iload hx hb dL_passes_232 (lv_at hl 7 rfl) ?_
            refine lv_iload_n hx hb dL_passes_234 rfl (lv_at hl 15 rfl) ?_
            refine x_icmp_gt (tgt := 242) hx hb dL_passes_235 (by decide) (by omega) (by omega) (fun c_235 => ?_) (fun c_235 => ?_)
            · refine x_iconst hx hb dL_passes_242 ?_
              refine x_icmp_ne (tgt := 261) hx hb dL_passes_243 (by decide) (by decide) (by decide) (fun q => absurd q (by decide)) (fun _ => ?_)
              refine lv_aload_n hx hb dL_passes_246 rfl (lv_at hl 14 rfl) ?_
              refine x_iconst hx hb dL_passes_247 ?_
              refine x_callVR (As := [.int (zI 0)]) (rest := []) S hK (p_count_0 l D cs a (elF τ w) pd ln (by first | exact hG | exact hG2)) (cwV 1 hts gL_passes_X6_count rfl rfl rfl (by decide +kernel) ⟨(Nat.le_of_ble_eq_true rfl), (Nat.le_of_ble_eq_true rfl)⟩) (PW_rc hK hW) hW rfl hl.1 (Nat.le_of_ble_eq_true rfl) dL_passes_248 ⟨Nat.zero_le _, Nat.zero_le _⟩ ?_
              refine lv_iload_n hx hb dL_passes_251 rfl (lv_at hl 13 rfl) ?_
              refine lv_iload_n hx hb dL_passes_252 rfl (lv_at hl 15 rfl) ?_
              refine x_iadd hx hb dL_passes_253 ?_
              refine x_icmp_neE (tgt := 261) hx hb dL_passes_254 (by decide) (by omega) ?_
              refine x_iconst hx hb dL_passes_257 ?_
              refine lv_goto (tgt := 262) hx hb dL_passes_258 (by decide) ?_
              refine lv_istore (lv' := [(18, .int (zI 1)), (17, .int (zI (pasA τ w))), (16, .int (zI 1)), (15, .int (zI (wkA τ k))), (14, .int (zI (τ (11 + 13 * k + 2)))), (13, .int (zI (τ (11 + 13 * k + 1)))), (11, .long (zL (msA τ k))), (10, .int (zI (cpow τ k))), (9, .int (zI (tinA τ k))), (8, .int (zI (τ (11 + 13 * k + 4)))), (7, .int (zI (τ (11 + 13 * k + 3)))), (6, .int (zI (wtA τ k w 1))), (5, .int (zI (wtA τ k w 0))), (4, .int (zI (trS τ (τ 7).toNat))), (3, .int (zI (τ 6))), (0, .ref (a 0)), (1, .int (zI w)), (2, .int (zI k))]) hx hb dL_passes_262 hl (by decide) rfl (fun ls hl => ?_)
              clear hti htr hpa hle eT e3 e4 hkk h8 h10 e6 hk0 hw0
              refine x_ldc2 (v := 6000) hx hb hown (hts (.constantLong RL 48 (zL 6000)) (by decide +kernel)) dL_passes_264 ?_
              refine lv_iload hx hb dL_passes_267 (lv_at hl 12 rfl) ?_
              refine lv_iload hx hb dL_passes_269 (lv_at hl 11 rfl) ?_
              refine x_iadd hx hb dL_passes_271 ?_
              refine x_i2l hx hb (by omega) dL_passes_272 ?_
              refine x_lmul hx hb dL_passes_273 ?_
              refine lv_aload_n hx hb dL_passes_274 rfl (lv_at hl 15 rfl) ?_
              refine lv_iload_n hx hb dL_passes_275 rfl (lv_at hl 17 rfl) ?_
              refine x_iconst hx hb dL_passes_276 ?_
              refine x_callVR (As := [.int (zI k), .int (zI 2)]) (rest := [.long (zL (6000 * ((wtA τ k w 0) + (wtA τ k w 1))))]) S hK (p_of_2 l D cs a (elF τ w) pd ln k (by first | exact hG | exact hG2) (by first | exact hk | exact hk2)) (cwV 2 hts gL_passes_X6_of rfl rfl rfl (by decide +kernel) ⟨(Nat.le_of_ble_eq_true rfl), (Nat.le_of_ble_eq_true rfl)⟩) (PW_rc hK hW) hW rfl hl.1 (Nat.le_of_ble_eq_true rfl) dL_passes_277 ⟨Nat.zero_le _, Nat.zero_le _⟩ ?_
              refine x_i2l hx hb (by omega) dL_passes_280 ?_
              refine x_ladd hx hb dL_passes_281 ?_
              refine lv_iload hx hb dL_passes_282 (lv_at hl 5 rfl) ?_
              refine x_i2l hx hb (by omega) dL_passes_284 ?_
              refine x_lsub hx hb dL_passes_285 ?_
              refine lv_lstore (lv' := [(19, .long (zL (((6000 * ((wtA τ k w 0) + (wtA τ k w 1))) + ((elF τ w) (11 + 13 * k + 1))) - (τ (11 + 13 * k + 1))))), (18, .int (zI 1)), (17, .int (zI (pasA τ w))), (16, .int (zI 1)), (15, .int (zI (wkA τ k))), (14, .int (zI (τ (11 + 13 * k + 2)))), (13, .int (zI (τ (11 + 13 * k + 1)))), (11, .long (zL (msA τ k))), (10, .int (zI (cpow τ k))), (9, .int (zI (tinA τ k))), (8, .int (zI (τ (11 + 13 * k + 4)))), (7, .int (zI (τ (11 + 13 * k + 3)))), (6, .int (zI (wtA τ k w 1))), (5, .int (zI (wtA τ k w 0))), (4, .int (zI (trS τ (τ 7).toNat))), (3, .int (zI (τ 6))), (0, .ref (a 0)), (1, .int (zI w)), (2, .int (zI k))]) hx hb dL_passes_286 hl (by decide) rfl (fun ls hl => ?_)
              refine lv_iload hx hb dL_passes_288 (lv_at hl 1 rfl) ?_
              refine x_if_eq (tgt := 325) hx hb dL_passes_290 (by decide) (by decide) (fun q => absurd q (by decide)) (fun _ => ?_)
              refine lv_aload_n hx hb dL_passes_293 rfl (lv_at hl 16 rfl) ?_
              refine lv_iload_n hx hb dL_passes_294 rfl (lv_at hl 18 rfl) ?_
              refine x_callVR (As := [.int (zI k)]) (rest := []) S hK (p_misses l D cs a (elF τ w) pd ln k (by first | exact hG | exact hG2) (by first | exact hk | exact hk2)) (cwV 1 hts gL_passes_X6_misses rfl rfl rfl (by decide +kernel) ⟨(Nat.le_of_ble_eq_true rfl), (Nat.le_of_ble_eq_true rfl)⟩) (PW_rc hK hW) hW rfl hl.1 (Nat.le_of_ble_eq_true rfl) dL_passes_295 ⟨Nat.zero_le _, Nat.zero_le _⟩ ?_
              refine lv_lload hx hb dL_passes_298 (lv_at hl 7 rfl) ?_
              refine lv_iload hx hb dL_passes_300 (lv_at hl 8 rfl) ?_
              refine x_i2l hx hb (by omega) dL_passes_302 ?_
              refine lv_iload_n hx hb dL_passes_303 rfl (lv_at hl 17 rfl) ?_
              refine x_i2l hx hb (by omega) dL_passes_304 ?_
              refine x_lmul hx hb dL_passes_305 ?_
              refine x_ladd hx hb dL_passes_306 ?_
              refine lv_lload hx hb dL_passes_307 (lv_at hl 0 rfl) ?_
              refine x_lsub hx hb dL_passes_309 ?_
              refine x_lcmp_neE (tgt := 325) hx hb dL_passes_310 dL_passes_311 (by decide) (by omega) ?_
              refine lv_lload hx hb dL_passes_314 (lv_at hl 0 rfl) ?_
              refine x_lconst (v := 0) hx hb dL_passes_316 rfl ?_
              refine x_lcmp_lt (tgt := 325) hx hb dL_passes_317 dL_passes_318 (by decide) (by omega) (by omega) (fun c_317 => ?_) (fun c_317 => ?_)
              · exfalso; omega
              · refine x_iconst hx hb dL_passes_321 ?_
                refine lv_goto (tgt := 326) hx hb dL_passes_322 (by decide) ?_
                refine lv_istore (lv' := [(18, .int (zI 1)), (19, .long (zL (((6000 * ((wtA τ k w 0) + (wtA τ k w 1))) + ((elF τ w) (11 + 13 * k + 1))) - (τ (11 + 13 * k + 1))))), (17, .int (zI (pasA τ w))), (16, .int (zI 1)), (15, .int (zI (wkA τ k))), (14, .int (zI (τ (11 + 13 * k + 2)))), (13, .int (zI (τ (11 + 13 * k + 1)))), (11, .long (zL (msA τ k))), (10, .int (zI (cpow τ k))), (9, .int (zI (tinA τ k))), (8, .int (zI (τ (11 + 13 * k + 4)))), (7, .int (zI (τ (11 + 13 * k + 3)))), (6, .int (zI (wtA τ k w 1))), (5, .int (zI (wtA τ k w 0))), (4, .int (zI (trS τ (τ 7).toNat))), (3, .int (zI (τ 6))), (0, .ref (a 0)), (1, .int (zI w)), (2, .int (zI k))]) hx hb dL_passes_326 hl (by decide) rfl (fun ls hl => ?_)
                refine lv_iload hx hb dL_passes_328 (lv_at hl 8 rfl) ?_
                refine x_if_le (tgt := 344) hx hb dL_passes_330 (by decide) (by omega) (fun c_330 => ?_) (fun c_330 => ?_)
                · refine lv_iload hx hb dL_passes_344 (lv_at hl 8 rfl) ?_
                  refine x_if_ne (tgt := 381) hx hb dL_passes_346 (by decide) (by omega) (fun c_346 => ?_) (fun c_346 => ?_)
                  · exfalso; omega
                  · refine lv_iload hx hb dL_passes_349 (lv_at hl 3 rfl) ?_
                    refine x_if_ne (tgt := 363) hx hb dL_passes_351 (by decide) (by decide) (fun _ => ?_) (fun q => absurd q (by decide))
                    refine lv_iload hx hb dL_passes_363 (lv_at hl 0 rfl) ?_
                    refine x_if_eq (tgt := 379) hx hb dL_passes_365 (by decide) (by decide) (fun q => absurd q (by decide)) (fun _ => ?_)
                    refine lv_lload hx hb dL_passes_368 (lv_at hl 1 rfl) ?_
                    refine x_lconst (v := 0) hx hb dL_passes_370 rfl ?_
                    refine x_lcmp_neE (tgt := 379) hx hb dL_passes_371 dL_passes_372 (by decide) (by omega) ?_
                    refine x_iconst hx hb dL_passes_375 ?_
                    refine lv_goto (tgt := 380) hx hb dL_passes_376 (by decide) ?_
                    exact x_zretM hx hb hr hlocks (by first | rfl | omega) (by exact Or.inr rfl) hW hS dL_passes_380
                · refine lv_iload hx hb dL_passes_333 (lv_at hl 8 rfl) ?_
                  refine lv_aload_n hx hb dL_passes_335 rfl (lv_at hl 16 rfl) ?_
                  refine x_bipush hx hb dL_passes_336 (by decide +kernel) ?_
                  refine x_callVR (As := [.int (zI 9)]) (rest := [.int (zI (cpow τ k))]) S hK (p_count_9 l D cs a (elF τ w) pd ln (by first | exact hG | exact hG2)) (cwV 1 hts gL_passes_X6_count rfl rfl rfl (by decide +kernel) ⟨(Nat.le_of_ble_eq_true rfl), (Nat.le_of_ble_eq_true rfl)⟩) (PW_rc hK hW) hW rfl hl.1 (Nat.le_of_ble_eq_true rfl) dL_passes_338 ⟨Nat.zero_le _, Nat.zero_le _⟩ ?_
                  refine x_icmp_le (tgt := 363) hx hb dL_passes_341 (by decide) (by omega) (by omega) (fun c_341 => ?_) (fun c_341 => ?_)
                  · refine lv_iload hx hb dL_passes_363 (lv_at hl 0 rfl) ?_
                    refine x_if_eq (tgt := 379) hx hb dL_passes_365 (by decide) (by decide) (fun q => absurd q (by decide)) (fun _ => ?_)
                    refine lv_lload hx hb dL_passes_368 (lv_at hl 1 rfl) ?_
                    refine x_lconst (v := 0) hx hb dL_passes_370 rfl ?_
                    refine x_lcmp_neE (tgt := 379) hx hb dL_passes_371 dL_passes_372 (by decide) (by omega) ?_
                    refine x_iconst hx hb dL_passes_375 ?_
                    refine lv_goto (tgt := 380) hx hb dL_passes_376 (by decide) ?_
                    exact x_zretM hx hb hr hlocks (by first | rfl | omega) (by exact Or.inr rfl) hW hS dL_passes_380
                  · refine lv_iload hx hb dL_passes_344 (lv_at hl 8 rfl) ?_
                    refine x_if_ne (tgt := 381) hx hb dL_passes_346 (by decide) (by omega) (fun c_346 => ?_) (fun c_346 => ?_)
                    · refine lv_iload hx hb dL_passes_381 (lv_at hl 8 rfl) ?_
                      refine x_if_le (tgt := 455) hx hb dL_passes_383 (by decide) (by omega) (fun c_383 => ?_) (fun c_383 => ?_)
                      · exfalso; omega
                      · have hps : 0 ≤ cpow τ k * τ (11 + 13 * k + 2) ∧ cpow τ k * τ (11 + 13 * k + 2) ≤ 48000 * 160 := ⟨Int.mul_nonneg hcp.1 (by omega), Int.mul_le_mul hcp.2 hm.2.1.2 (by omega) (by omega)⟩
                        refine lv_iload hx hb dL_passes_386 (lv_at hl 8 rfl) ?_
                        refine x_i2l hx hb (by omega) dL_passes_388 ?_
                        refine lv_iload hx hb dL_passes_389 (lv_at hl 5 rfl) ?_
                        refine x_i2l hx hb (by omega) dL_passes_391 ?_
                        refine x_lmul hx hb dL_passes_392 ?_
                        refine x_ldc2 (v := 100) hx hb hown (hts (.constantLong RL 50 (zL 100)) (by decide +kernel)) dL_passes_393 ?_
                        refine x_ldiv hx hb (by omega) (by omega) dL_passes_396 ?_
                        refine lv_iload hx hb dL_passes_397 (lv_at hl 3 rfl) ?_
                        refine x_if_eq (tgt := 408) hx hb dL_passes_399 (by decide) (by decide) (fun q => absurd q (by decide)) (fun _ => ?_)
                        refine x_ldc2 (v := 2) hx hb hown (hts (.constantLong RL 52 (zL 2)) (by decide +kernel)) dL_passes_402 ?_
                        refine lv_goto (tgt := 409) hx hb dL_passes_405 (by decide) ?_
                        refine x_ldiv hx hb (by omega) (by omega) dL_passes_409 ?_
                        refine lv_iload_n hx hb dL_passes_410 rfl (lv_at hl 17 rfl) ?_
                        refine x_i2l hx hb (by omega) dL_passes_411 ?_
                        refine x_lmul hx hb dL_passes_412 ?_
                        have fG2 := fG (by omega)
                        first | rw [stp_b c_145] at fG2 | rw [stp_n c_145] at fG2
                        refine lv_lstore (lv' := [(21, .long (zL (((((cpow τ k) * (τ (11 + 13 * k + 2))) / 100) / 2) * w))), (18, .int (zI 1)), (19, .long (zL (((6000 * ((wtA τ k w 0) + (wtA τ k w 1))) + ((elF τ w) (11 + 13 * k + 1))) - (τ (11 + 13 * k + 1))))), (17, .int (zI (pasA τ w))), (16, .int (zI 1)), (15, .int (zI (wkA τ k))), (14, .int (zI (τ (11 + 13 * k + 2)))), (13, .int (zI (τ (11 + 13 * k + 1)))), (11, .long (zL (msA τ k))), (10, .int (zI (cpow τ k))), (9, .int (zI (tinA τ k))), (8, .int (zI (τ (11 + 13 * k + 4)))), (7, .int (zI (τ (11 + 13 * k + 3)))), (6, .int (zI (wtA τ k w 1))), (5, .int (zI (wtA τ k w 0))), (4, .int (zI (trS τ (τ 7).toNat))), (3, .int (zI (τ 6))), (0, .ref (a 0)), (1, .int (zI w)), (2, .int (zI k))]) hx hb dL_passes_413 hl (by decide) rfl (fun ls hl => ?_)
                        refine lv_iload hx hb dL_passes_415 (lv_at hl 1 rfl) ?_
                        refine x_if_eq (tgt := 453) hx hb dL_passes_417 (by decide) (by decide) (fun q => absurd q (by decide)) (fun _ => ?_)
                        refine lv_lload hx hb dL_passes_420 (lv_at hl 2 rfl) ?_
                        refine lv_lload hx hb dL_passes_422 (lv_at hl 0 rfl) ?_
                        refine x_lcmp_lt (tgt := 453) hx hb dL_passes_424 dL_passes_425 (by decide) (by omega) (by omega) (fun c_424 => ?_) (fun c_424 => ?_)
                        · exfalso; omega
                        · refine lv_iload hx hb dL_passes_428 (lv_at hl 5 rfl) ?_
                          refine x_bipush hx hb dL_passes_430 (by decide +kernel) ?_
                          refine x_icmp_eq (tgt := 441) hx hb dL_passes_432 (by decide) (by omega) (by omega) (fun c_432 => ?_) (fun c_432 => ?_)
                          · refine lv_lload hx hb dL_passes_441 (lv_at hl 2 rfl) ?_
                            refine lv_lload hx hb dL_passes_443 (lv_at hl 0 rfl) ?_
                            refine x_lcmp_neE (tgt := 453) hx hb dL_passes_445 dL_passes_446 (by decide) (by omega) ?_
                            refine x_iconst hx hb dL_passes_449 ?_
                            refine lv_goto (tgt := 454) hx hb dL_passes_450 (by decide) ?_
                            exact x_zretM hx hb hr hlocks (by first | rfl | omega) (by exact Or.inr rfl) hW hS dL_passes_454
                          · refine lv_iload hx hb dL_passes_435 (lv_at hl 5 rfl) ?_
                            refine lv_iload_n hx hb dL_passes_437 rfl (lv_at hl 18 rfl) ?_
                            refine x_icmp_lt (tgt := 449) hx hb dL_passes_438 (by decide) (by omega) (by omega) (fun c_438 => ?_) (fun c_438 => ?_)
                            · refine x_iconst hx hb dL_passes_449 ?_
                              refine lv_goto (tgt := 454) hx hb dL_passes_450 (by decide) ?_
                              exact x_zretM hx hb hr hlocks (by first | rfl | omega) (by exact Or.inr rfl) hW hS dL_passes_454
                            · refine lv_lload hx hb dL_passes_441 (lv_at hl 2 rfl) ?_
                              refine lv_lload hx hb dL_passes_443 (lv_at hl 0 rfl) ?_
                              refine x_lcmp_neE (tgt := 453) hx hb dL_passes_445 dL_passes_446 (by decide) (by omega) ?_
                              refine x_iconst hx hb dL_passes_449 ?_
                              refine lv_goto (tgt := 454) hx hb dL_passes_450 (by decide) ?_
                              exact x_zretM hx hb hr hlocks (by first | rfl | omega) (by exact Or.inr rfl) hW hS dL_passes_454
                    · exfalso; omega
            · refine x_iconst hx hb dL_passes_238 ?_
              refine lv_goto (tgt := 243) hx hb dL_passes_239 (by decide) ?_
              refine x_icmp_ne (tgt := 261) hx hb dL_passes_243 (by decide) (by decide) (by decide) (fun _ => ?_) (fun q => absurd q (by decide))
              exfalso; omega
        · refine x_iconst hx hb dL_passes_222 ?_
          refine lv_goto (tgt := 227) hx hb dL_passes_223 (by decide) ?_
          refine lv_iload hx hb dL_passes_227 (lv_at hl 7 rfl) ?_
          refine x_if_le (tgt := 242) hx hb dL_passes_229 (by decide) (by omega) (fun c_229 => ?_) (fun c_229 => ?_)
          · refine x_iconst hx hb dL_passes_242 ?_
            refine x_icmp_ne (tgt := 261) hx hb dL_passes_243 (by decide) (by decide) (by decide) (fun _ => ?_) (fun q => absurd q (by decide))
            exfalso; omega
          · refine lv_iload hx hb dL_passes_232 (lv_at hl 7 rfl) ?_
            refine lv_iload_n hx hb dL_passes_234 rfl (lv_at hl 15 rfl) ?_
            refine x_icmp_gt (tgt := 242) hx hb dL_passes_235 (by decide) (by omega) (by omega) (fun c_235 => ?_) (fun c_235 => ?_)
            · refine x_iconst hx hb dL_passes_242 ?_
              refine x_icmp_ne (tgt := 261) hx hb dL_passes_243 (by decide) (by decide) (by decide) (fun _ => ?_) (fun q => absurd q (by decide))
              exfalso; omega
            · refine x_iconst hx hb dL_passes_238 ?_
              refine lv_goto (tgt := 243) hx hb dL_passes_239 (by decide) ?_
              refine x_icmp_ne (tgt := 261) hx hb dL_passes_243 (by decide) (by decide) (by decide) (fun q => absurd q (by decide)) (fun _ => ?_)
              refine lv_aload_n hx hb dL_passes_246 rfl (lv_at hl 14 rfl) ?_
              refine x_iconst hx hb dL_passes_247 ?_
              refine x_callVR (As := [.int (zI 0)]) (rest := []) S hK (p_count_0 l D cs a (elF τ w) pd ln (by first | exact hG | exact hG2)) (cwV 1 hts gL_passes_X6_count rfl rfl rfl (by decide +kernel) ⟨(Nat.le_of_ble_eq_true rfl), (Nat.le_of_ble_eq_true rfl)⟩) (PW_rc hK hW) hW rfl hl.1 (Nat.le_of_ble_eq_true rfl) dL_passes_248 ⟨Nat.zero_le _, Nat.zero_le _⟩ ?_
              refine lv_iload_n hx hb dL_passes_251 rfl (lv_at hl 13 rfl) ?_
              refine lv_iload_n hx hb dL_passes_252 rfl (lv_at hl 15 rfl) ?_
              refine x_iadd hx hb dL_passes_253 ?_
              refine x_icmp_neE (tgt := 261) hx hb dL_passes_254 (by decide) (by omega) ?_
              refine x_iconst hx hb dL_passes_257 ?_
              refine lv_goto (tgt := 262) hx hb dL_passes_258 (by decide) ?_
              refine lv_istore (lv' := [(18, .int (zI 1)), (17, .int (zI (pasA τ w))), (16, .int (zI 1)), (15, .int (zI (wkA τ k))), (14, .int (zI (τ (11 + 13 * k + 2)))), (13, .int (zI (τ (11 + 13 * k + 1)))), (11, .long (zL (msA τ k))), (10, .int (zI (cpow τ k))), (9, .int (zI (tinA τ k))), (8, .int (zI (τ (11 + 13 * k + 4)))), (7, .int (zI (τ (11 + 13 * k + 3)))), (6, .int (zI (wtA τ k w 1))), (5, .int (zI (wtA τ k w 0))), (4, .int (zI (trS τ (τ 7).toNat))), (3, .int (zI (τ 6))), (0, .ref (a 0)), (1, .int (zI w)), (2, .int (zI k))]) hx hb dL_passes_262 hl (by decide) rfl (fun ls hl => ?_)
              clear hti htr hpa hle eT e3 e4 hkk h8 h10 e6 hk0 hw0
              refine x_ldc2 (v := 6000) hx hb hown (hts (.constantLong RL 48 (zL 6000)) (by decide +kernel)) dL_passes_264 ?_
              refine lv_iload hx hb dL_passes_267 (lv_at hl 12 rfl) ?_
              refine lv_iload hx hb dL_passes_269 (lv_at hl 11 rfl) ?_
              refine x_iadd hx hb dL_passes_271 ?_
              refine x_i2l hx hb (by omega) dL_passes_272 ?_
              refine x_lmul hx hb dL_passes_273 ?_
              refine lv_aload_n hx hb dL_passes_274 rfl (lv_at hl 15 rfl) ?_
              refine lv_iload_n hx hb dL_passes_275 rfl (lv_at hl 17 rfl) ?_
              refine x_iconst hx hb dL_passes_276 ?_
              refine x_callVR (As := [.int (zI k), .int (zI 2)]) (rest := [.long (zL (6000 * ((wtA τ k w 0) + (wtA τ k w 1))))]) S hK (p_of_2 l D cs a (elF τ w) pd ln k (by first | exact hG | exact hG2) (by first | exact hk | exact hk2)) (cwV 2 hts gL_passes_X6_of rfl rfl rfl (by decide +kernel) ⟨(Nat.le_of_ble_eq_true rfl), (Nat.le_of_ble_eq_true rfl)⟩) (PW_rc hK hW) hW rfl hl.1 (Nat.le_of_ble_eq_true rfl) dL_passes_277 ⟨Nat.zero_le _, Nat.zero_le _⟩ ?_
              refine x_i2l hx hb (by omega) dL_passes_280 ?_
              refine x_ladd hx hb dL_passes_281 ?_
              refine lv_iload hx hb dL_passes_282 (lv_at hl 5 rfl) ?_
              refine x_i2l hx hb (by omega) dL_passes_284 ?_
              refine x_lsub hx hb dL_passes_285 ?_
              refine lv_lstore (lv' := [(19, .long (zL (((6000 * ((wtA τ k w 0) + (wtA τ k w 1))) + ((elF τ w) (11 + 13 * k + 1))) - (τ (11 + 13 * k + 1))))), (18, .int (zI 1)), (17, .int (zI (pasA τ w))), (16, .int (zI 1)), (15, .int (zI (wkA τ k))), (14, .int (zI (τ (11 + 13 * k + 2)))), (13, .int (zI (τ (11 + 13 * k + 1)))), (11, .long (zL (msA τ k))), (10, .int (zI (cpow τ k))), (9, .int (zI (tinA τ k))), (8, .int (zI (τ (11 + 13 * k + 4)))), (7, .int (zI (τ (11 + 13 * k + 3)))), (6, .int (zI (wtA τ k w 1))), (5, .int (zI (wtA τ k w 0))), (4, .int (zI (trS τ (τ 7).toNat))), (3, .int (zI (τ 6))), (0, .ref (a 0)), (1, .int (zI w)), (2, .int (zI k))]) hx hb dL_passes_286 hl (by decide) rfl (fun ls hl => ?_)
              refine lv_iload hx hb dL_passes_288 (lv_at hl 1 rfl) ?_
              refine x_if_eq (tgt := 325) hx hb dL_passes_290 (by decide) (by decide) (fun q => absurd q (by decide)) (fun _ => ?_)
              refine lv_aload_n hx hb dL_passes_293 rfl (lv_at hl 16 rfl) ?_
              refine lv_iload_n hx hb dL_passes_294 rfl (lv_at hl 18 rfl) ?_
              refine x_callVR (As := [.int (zI k)]) (rest := []) S hK (p_misses l D cs a (elF τ w) pd ln k (by first | exact hG | exact hG2) (by first | exact hk | exact hk2)) (cwV 1 hts gL_passes_X6_misses rfl rfl rfl (by decide +kernel) ⟨(Nat.le_of_ble_eq_true rfl), (Nat.le_of_ble_eq_true rfl)⟩) (PW_rc hK hW) hW rfl hl.1 (Nat.le_of_ble_eq_true rfl) dL_passes_295 ⟨Nat.zero_le _, Nat.zero_le _⟩ ?_
              refine lv_lload hx hb dL_passes_298 (lv_at hl 7 rfl) ?_
              refine lv_iload hx hb dL_passes_300 (lv_at hl 8 rfl) ?_
              refine x_i2l hx hb (by omega) dL_passes_302 ?_
              refine lv_iload_n hx hb dL_passes_303 rfl (lv_at hl 17 rfl) ?_
              refine x_i2l hx hb (by omega) dL_passes_304 ?_
              refine x_lmul hx hb dL_passes_305 ?_
              refine x_ladd hx hb dL_passes_306 ?_
              refine lv_lload hx hb dL_passes_307 (lv_at hl 0 rfl) ?_
              refine x_lsub hx hb dL_passes_309 ?_
              refine x_lcmp_neE (tgt := 325) hx hb dL_passes_310 dL_passes_311 (by decide) (by omega) ?_
              refine lv_lload hx hb dL_passes_314 (lv_at hl 0 rfl) ?_
              refine x_lconst (v := 0) hx hb dL_passes_316 rfl ?_
              refine x_lcmp_lt (tgt := 325) hx hb dL_passes_317 dL_passes_318 (by decide) (by omega) (by omega) (fun c_317 => ?_) (fun c_317 => ?_)
              · exfalso; omega
              · refine x_iconst hx hb dL_passes_321 ?_
                refine lv_goto (tgt := 326) hx hb dL_passes_322 (by decide) ?_
                refine lv_istore (lv' := [(18, .int (zI 1)), (19, .long (zL (((6000 * ((wtA τ k w 0) + (wtA τ k w 1))) + ((elF τ w) (11 + 13 * k + 1))) - (τ (11 + 13 * k + 1))))), (17, .int (zI (pasA τ w))), (16, .int (zI 1)), (15, .int (zI (wkA τ k))), (14, .int (zI (τ (11 + 13 * k + 2)))), (13, .int (zI (τ (11 + 13 * k + 1)))), (11, .long (zL (msA τ k))), (10, .int (zI (cpow τ k))), (9, .int (zI (tinA τ k))), (8, .int (zI (τ (11 + 13 * k + 4)))), (7, .int (zI (τ (11 + 13 * k + 3)))), (6, .int (zI (wtA τ k w 1))), (5, .int (zI (wtA τ k w 0))), (4, .int (zI (trS τ (τ 7).toNat))), (3, .int (zI (τ 6))), (0, .ref (a 0)), (1, .int (zI w)), (2, .int (zI k))]) hx hb dL_passes_326 hl (by decide) rfl (fun ls hl => ?_)
                refine lv_iload hx hb dL_passes_328 (lv_at hl 8 rfl) ?_
                refine x_if_le (tgt := 344) hx hb dL_passes_330 (by decide) (by omega) (fun c_330 => ?_) (fun c_330 => ?_)
                · refine lv_iload hx hb dL_passes_344 (lv_at hl 8 rfl) ?_
                  refine x_if_ne (tgt := 381) hx hb dL_passes_346 (by decide) (by omega) (fun c_346 => ?_) (fun c_346 => ?_)
                  · exfalso; omega
                  · refine lv_iload hx hb dL_passes_349 (lv_at hl 3 rfl) ?_
                    refine x_if_ne (tgt := 363) hx hb dL_passes_351 (by decide) (by decide) (fun _ => ?_) (fun q => absurd q (by decide))
                    refine lv_iload hx hb dL_passes_363 (lv_at hl 0 rfl) ?_
                    refine x_if_eq (tgt := 379) hx hb dL_passes_365 (by decide) (by decide) (fun q => absurd q (by decide)) (fun _ => ?_)
                    refine lv_lload hx hb dL_passes_368 (lv_at hl 1 rfl) ?_
                    refine x_lconst (v := 0) hx hb dL_passes_370 rfl ?_
                    refine x_lcmp_neE (tgt := 379) hx hb dL_passes_371 dL_passes_372 (by decide) (by omega) ?_
                    refine x_iconst hx hb dL_passes_375 ?_
                    refine lv_goto (tgt := 380) hx hb dL_passes_376 (by decide) ?_
                    exact x_zretM hx hb hr hlocks (by first | rfl | omega) (by exact Or.inr rfl) hW hS dL_passes_380
                · refine lv_iload hx hb dL_passes_333 (lv_at hl 8 rfl) ?_
                  refine lv_aload_n hx hb dL_passes_335 rfl (lv_at hl 16 rfl) ?_
                  refine x_bipush hx hb dL_passes_336 (by decide +kernel) ?_
                  refine x_callVR (As := [.int (zI 9)]) (rest := [.int (zI (cpow τ k))]) S hK (p_count_9 l D cs a (elF τ w) pd ln (by first | exact hG | exact hG2)) (cwV 1 hts gL_passes_X6_count rfl rfl rfl (by decide +kernel) ⟨(Nat.le_of_ble_eq_true rfl), (Nat.le_of_ble_eq_true rfl)⟩) (PW_rc hK hW) hW rfl hl.1 (Nat.le_of_ble_eq_true rfl) dL_passes_338 ⟨Nat.zero_le _, Nat.zero_le _⟩ ?_
                  refine x_icmp_le (tgt := 363) hx hb dL_passes_341 (by decide) (by omega) (by omega) (fun c_341 => ?_) (fun c_341 => ?_)
                  · refine lv_iload hx hb dL_passes_363 (lv_at hl 0 rfl) ?_
                    refine x_if_eq (tgt := 379) hx hb dL_passes_365 (by decide) (by decide) (fun q => absurd q (by decide)) (fun _ => ?_)
                    refine lv_lload hx hb dL_passes_368 (lv_at hl 1 rfl) ?_
                    refine x_lconst (v := 0) hx hb dL_passes_370 rfl ?_
                    refine x_lcmp_neE (tgt := 379) hx hb dL_passes_371 dL_passes_372 (by decide) (by omega) ?_
                    refine x_iconst hx hb dL_passes_375 ?_
                    refine lv_goto (tgt := 380) hx hb dL_passes_376 (by decide) ?_
                    exact x_zretM hx hb hr hlocks (by first | rfl | omega) (by exact Or.inr rfl) hW hS dL_passes_380
                  · refine lv_iload hx hb dL_passes_344 (lv_at hl 8 rfl) ?_
                    refine x_if_ne (tgt := 381) hx hb dL_passes_346 (by decide) (by omega) (fun c_346 => ?_) (fun c_346 => ?_)
                    · refine lv_iload hx hb dL_passes_381 (lv_at hl 8 rfl) ?_
                      refine x_if_le (tgt := 455) hx hb dL_passes_383 (by decide) (by omega) (fun c_383 => ?_) (fun c_383 => ?_)
                      · exfalso; omega
                      · have hps : 0 ≤ cpow τ k * τ (11 + 13 * k + 2) ∧ cpow τ k * τ (11 + 13 * k + 2) ≤ 48000 * 160 := ⟨Int.mul_nonneg hcp.1 (by omega), Int.mul_le_mul hcp.2 hm.2.1.2 (by omega) (by omega)⟩
                        refine lv_iload hx hb dL_passes_386 (lv_at hl 8 rfl) ?_
                        refine x_i2l hx hb (by omega) dL_passes_388 ?_
                        refine lv_iload hx hb dL_passes_389 (lv_at hl 5 rfl) ?_
                        refine x_i2l hx hb (by omega) dL_passes_391 ?_
                        refine x_lmul hx hb dL_passes_392 ?_
                        refine x_ldc2 (v := 100) hx hb hown (hts (.constantLong RL 50 (zL 100)) (by decide +kernel)) dL_passes_393 ?_
                        refine x_ldiv hx hb (by omega) (by omega) dL_passes_396 ?_
                        refine lv_iload hx hb dL_passes_397 (lv_at hl 3 rfl) ?_
                        refine x_if_eq (tgt := 408) hx hb dL_passes_399 (by decide) (by decide) (fun q => absurd q (by decide)) (fun _ => ?_)
                        refine x_ldc2 (v := 2) hx hb hown (hts (.constantLong RL 52 (zL 2)) (by decide +kernel)) dL_passes_402 ?_
                        refine lv_goto (tgt := 409) hx hb dL_passes_405 (by decide) ?_
                        refine x_ldiv hx hb (by omega) (by omega) dL_passes_409 ?_
                        refine lv_iload_n hx hb dL_passes_410 rfl (lv_at hl 17 rfl) ?_
                        refine x_i2l hx hb (by omega) dL_passes_411 ?_
                        refine x_lmul hx hb dL_passes_412 ?_
                        have fG2 := fG (by omega)
                        first | rw [stp_b c_145] at fG2 | rw [stp_n c_145] at fG2
                        refine lv_lstore (lv' := [(21, .long (zL (((((cpow τ k) * (τ (11 + 13 * k + 2))) / 100) / 2) * w))), (18, .int (zI 1)), (19, .long (zL (((6000 * ((wtA τ k w 0) + (wtA τ k w 1))) + ((elF τ w) (11 + 13 * k + 1))) - (τ (11 + 13 * k + 1))))), (17, .int (zI (pasA τ w))), (16, .int (zI 1)), (15, .int (zI (wkA τ k))), (14, .int (zI (τ (11 + 13 * k + 2)))), (13, .int (zI (τ (11 + 13 * k + 1)))), (11, .long (zL (msA τ k))), (10, .int (zI (cpow τ k))), (9, .int (zI (tinA τ k))), (8, .int (zI (τ (11 + 13 * k + 4)))), (7, .int (zI (τ (11 + 13 * k + 3)))), (6, .int (zI (wtA τ k w 1))), (5, .int (zI (wtA τ k w 0))), (4, .int (zI (trS τ (τ 7).toNat))), (3, .int (zI (τ 6))), (0, .ref (a 0)), (1, .int (zI w)), (2, .int (zI k))]) hx hb dL_passes_413 hl (by decide) rfl (fun ls hl => ?_)
                        refine lv_iload hx hb dL_passes_415 (lv_at hl 1 rfl) ?_
                        refine x_if_eq (tgt := 453) hx hb dL_passes_417 (by decide) (by decide) (fun q => absurd q (by decide)) (fun _ => ?_)
                        refine lv_lload hx hb dL_passes_420 (lv_at hl 2 rfl) ?_
                        refine lv_lload hx hb dL_passes_422 (lv_at hl 0 rfl) ?_
                        refine x_lcmp_lt (tgt := 453) hx hb dL_passes_424 dL_passes_425 (by decide) (by omega) (by omega) (fun c_424 => ?_) (fun c_424 => ?_)
                        · exfalso; omega
                        · refine lv_iload hx hb dL_passes_428 (lv_at hl 5 rfl) ?_
                          refine x_bipush hx hb dL_passes_430 (by decide +kernel) ?_
                          refine x_icmp_eq (tgt := 441) hx hb dL_passes_432 (by decide) (by omega) (by omega) (fun c_432 => ?_) (fun c_432 => ?_)
                          · refine lv_lload hx hb dL_passes_441 (lv_at hl 2 rfl) ?_
                            refine lv_lload hx hb dL_passes_443 (lv_at hl 0 rfl) ?_
                            refine x_lcmp_neE (tgt := 453) hx hb dL_passes_445 dL_passes_446 (by decide) (by omega) ?_
                            refine x_iconst hx hb dL_passes_449 ?_
                            refine lv_goto (tgt := 454) hx hb dL_passes_450 (by decide) ?_
                            exact x_zretM hx hb hr hlocks (by first | rfl | omega) (by exact Or.inr rfl) hW hS dL_passes_454
                          · refine lv_iload hx hb dL_passes_435 (lv_at hl 5 rfl) ?_
                            refine lv_iload_n hx hb dL_passes_437 rfl (lv_at hl 18 rfl) ?_
                            refine x_icmp_lt (tgt := 449) hx hb dL_passes_438 (by decide) (by omega) (by omega) (fun c_438 => ?_) (fun c_438 => ?_)
                            · refine x_iconst hx hb dL_passes_449 ?_
                              refine lv_goto (tgt := 454) hx hb dL_passes_450 (by decide) ?_
                              exact x_zretM hx hb hr hlocks (by first | rfl | omega) (by exact Or.inr rfl) hW hS dL_passes_454
                            · refine lv_lload hx hb dL_passes_441 (lv_at hl 2 rfl) ?_
                              refine lv_lload hx hb dL_passes_443 (lv_at hl 0 rfl) ?_
                              refine x_lcmp_neE (tgt := 453) hx hb dL_passes_445 dL_passes_446 (by decide) (by omega) ?_
                              refine x_iconst hx hb dL_passes_449 ?_
                              refine lv_goto (tgt := 454) hx hb dL_passes_450 (by decide) ?_
                              exact x_zretM hx hb hr hlocks (by first | rfl | omega) (by exact Or.inr rfl) hW hS dL_passes_454
                    · exfalso; omega
  · obtain ⟨hG2, e6, e7, eT, eL0, eL1, eL2⟩ := ps_el hG hw0
    have eP0 : pasA τ w = 0 := ps_0 hG hw0 c_19
    refine lv_aload_n hx hb dL_passes_22 rfl (lv_at hl 2 rfl) ?_
    refine lv_iload_n hx hb dL_passes_23 rfl (lv_at hl 3 rfl) ?_
    refine x_callVM (As := [.int (zI w)]) (rest := []) S hK (p_pass l D cs a τ pd ln w (by first | exact hG | exact hG2) (by exact hI) (by first | exact hw0 | omega)) (cwV 1 hts gL_passes_X6_pass rfl rfl rfl (by decide +kernel) ⟨(Nat.le_of_ble_eq_true rfl), (Nat.le_of_ble_eq_true rfl)⟩) (PW_rc hK hW) hW rfl hl.1 (Nat.le_of_ble_eq_true rfl) dL_passes_24 ⟨Nat.zero_le _, Nat.zero_le _⟩ hS (fun q hq => hq) (fun H locs hB hF hS => ?_)
    have hW : PW D cs a (elF τ w) pd ln H := hB
    refine x_if_neE (tgt := 54) hx hb dL_passes_27 (by decide) (by omega) ?_
    refine lv_aload_n hx hb dL_passes_30 rfl (lv_at hl 2 rfl) ?_
    refine x_iconst hx hb dL_passes_31 ?_
    refine x_callVR (As := [.int (zI 0)]) (rest := []) S hK (p_count_0 l D cs a (elF τ w) pd ln (by first | exact hG | exact hG2)) (cwV 1 hts gL_passes_X6_count rfl rfl rfl (by decide +kernel) ⟨(Nat.le_of_ble_eq_true rfl), (Nat.le_of_ble_eq_true rfl)⟩) (PW_rc hK hW) hW rfl hl.1 (Nat.le_of_ble_eq_true rfl) dL_passes_32 ⟨Nat.zero_le _, Nat.zero_le _⟩ ?_
    refine lv_iload_n hx hb dL_passes_35 rfl (lv_at hl 1 rfl) ?_
    refine lv_iload_n hx hb dL_passes_36 rfl (lv_at hl 3 rfl) ?_
    refine x_iadd hx hb dL_passes_37 ?_
    refine x_icmp_neE (tgt := 54) hx hb dL_passes_38 (by decide) (by omega) ?_
    refine lv_aload_n hx hb dL_passes_41 rfl (lv_at hl 2 rfl) ?_
    have eW : worA (elF τ w) = -6 := by unfold worA; rw [if_pos (by omega)]
    refine x_callVR (As := []) (rest := []) S hK (p_worst l D cs a (elF τ w) pd ln (by first | exact hG | exact hG2)) (cwV 0 hts gL_passes_X6_worst rfl rfl rfl (by decide +kernel) ⟨(Nat.le_of_ble_eq_true rfl), (Nat.le_of_ble_eq_true rfl)⟩) (PW_rc hK hW) hW rfl hl.1 (Nat.le_of_ble_eq_true rfl) dL_passes_42 ⟨Nat.zero_le _, Nat.zero_le _⟩ ?_
    refine x_bipush hx hb dL_passes_45 (by decide +kernel) ?_
    refine x_icmp_neE (tgt := 54) hx hb dL_passes_47 (by decide) (by omega) ?_
    refine x_iconst hx hb dL_passes_50 ?_
    refine lv_goto (tgt := 55) hx hb dL_passes_51 (by decide) ?_
    exact x_zretM hx hb hr hlocks (by first | rfl | omega) (by exact Or.inr rfl) hW hS dL_passes_55
