set_option maxHeartbeats 4000000 in
set_option maxRecDepth 100000 in
theorem l_low (l : Launch) (D : va_G) (cs : Nat → ClassId) (v : Int) (nn : Int) (hn : 0 < nn ∧ nn < 2147483648) : kR D cs l yL_low wsL_low ({ frames := 0, cells := 0, slots := 0, locals := 0 } : Room) [.int (zI v), .int (zI nn)] (fun _ => True) (some (.int (zI (lowA v nn)))) := by
  refine Met.ofW (cc := cL_low) (maxL := 2) (ret := (some .int)) (by decide) rfl ?_
  intro p e s m args below meth c s₁ B hml hv
  obtain ⟨rfl, hK, -⟩ := hv
  have hx := B.exec
  have hb := B.bytes
  have hr := B.returns
  have hts := atoms_spec (ws := wsL_low) B.pre
  have hown : s.vm.findClass RL = some m.cls := findClass_of_methodNamed B.named
  have hlocks := B.notSynchronized
  have S : CallFix p m c cL_low 2 s (([.int (zI v), .int (zI nn)] : List Value)).toArray wsL_low RL := ⟨hx, hb, hml, hown, hts⟩
  have hl := lv_entry ([.int (zI v), .int (zI nn)]) (n := 2) (Nat.le_of_ble_eq_true rfl)
  rw [lg_entry_eq]
  generalize (lg_sl ([.int (zI v), .int (zI nn)]) ++ List.replicate (2 - (lg_sl ([.int (zI v), .int (zI nn)])).length) Slot.unset).toArray = ls at hl ⊢
  have hl : lv_has ls 2 [(0, .int (zI v)), (1, .int (zI nn))] := hl
  refine lv_iload_n hx hb dL_low_0 rfl (lv_at hl 0 rfl) ?_
  refine x_ldc (v := 2147483647) hx hb hown (hts (.constant RL 7 (zI 2147483647)) (by decide +kernel)) dL_low_1 ?_
  refine x_iand31 hx hb dL_low_3 ?_
  refine lv_iload_n hx hb dL_low_4 rfl (lv_at hl 1 rfl) ?_
  refine x_irem hx hb (by omega) (by omega) dL_low_5 ?_
  exact x_iretR hx hb hr hlocks (by rfl) rfl dL_low_6
set_option maxHeartbeats 4000000 in
set_option maxRecDepth 100000 in
theorem l_isVisited (l : Launch) (D : va_G) (cs : Nat → ClassId) (a : Int → Nat) (τ : Int → Int) (pd : Int → Int) (ln : Int) (k : Int) (N : Int) (hG : GD N τ) (hI : eI a) (hk : 0 ≤ k ∧ k < τ 7) (hN9 : N ≤ 999) : kM D cs l yL_isVisited wsL_isVisited ({ frames := 4, cells := 0, slots := 0, locals := 91 } : Room) [.ref (a 0), .int (zI k)] (fun H => PW D cs a τ pd ln H) (some (.int (zI 1))) (fun H => PW D cs a (inF τ k) pd ln H) (eC a) := by
  refine Met.ofW (cc := cL_isVisited) (maxL := 11) (ret := (some .boolean)) (by decide) rfl ?_
  intro p e s m args below meth c s₁ B hml hv
  obtain ⟨rfl, hK, hW⟩ := hv
  have hx := B.exec
  have hb := B.bytes
  have hr := B.returns
  have hts := atoms_spec (ws := wsL_isVisited) B.pre
  have hown : s.vm.findClass RL = some m.cls := findClass_of_methodNamed B.named
  have hlocks := B.notSynchronized
  have S : CallFix p m c cL_isVisited 11 s (([.ref (a 0), .int (zI k)] : List Value)).toArray wsL_isVisited RL := ⟨hx, hb, hml, hown, hts⟩
  have hS : va_S (eC a) s.heap s.heap [] := va_S.rf
  have hl := lv_entry ([.ref (a 0), .int (zI k)]) (n := 11) (Nat.le_of_ble_eq_true rfl)
  rw [lg_entry_eq]
  generalize (lg_sl ([.ref (a 0), .int (zI k)]) ++ List.replicate (11 - (lg_sl ([.ref (a 0), .int (zI k)])).length) Slot.unset).toArray = ls at hl ⊢
  have hl : lv_has ls 11 [(0, .ref (a 0)), (1, .int (zI k))] := hl
  have h7 := gd_7 hG
  have h8 := gd_8 hG
  have h6 := gd_6 hG
  have h10 := gd_10 hG
  have hNn := hG.1
  refine lv_aload_n hx hb dL_isVisited_0 rfl (lv_at hl 0 rfl) ?_
  refine lv_iload_n hx hb dL_isVisited_1 rfl (lv_at hl 1 rfl) ?_
  refine x_callVR (As := [.int (zI k)]) (rest := []) S hK (p_bill l D cs a τ pd ln k (by first | exact hG | exact hG2) (by first | exact hk | exact hk2)) (cwV 1 hts gL_isVisited_X6_bill rfl rfl rfl (by decide +kernel) ⟨(Nat.le_of_ble_eq_true rfl), (Nat.le_of_ble_eq_true rfl)⟩) (PW_rc hK hW) hW rfl hl.1 (Nat.le_of_ble_eq_true rfl) dL_isVisited_2 ⟨Nat.zero_le _, Nat.zero_le _⟩ ?_
  refine lv_istore_n (lv' := [(2, .int (zI (bilA τ k))), (0, .ref (a 0)), (1, .int (zI k))]) hx hb dL_isVisited_5 rfl hl (by decide) rfl (fun ls hl => ?_)
  have hm := gd_m hG hk
  refine lv_aload_n hx hb dL_isVisited_6 rfl (lv_at hl 1 rfl) ?_
  refine lv_iload_n hx hb dL_isVisited_7 rfl (lv_at hl 2 rfl) ?_
  refine x_bipush hx hb dL_isVisited_8 (by decide +kernel) ?_
  refine x_callVR (As := [.int (zI k), .int (zI 9)]) (rest := []) S hK (p_of_9 l D cs a τ pd ln k (by first | exact hG | exact hG2) (by first | exact hk | exact hk2)) (cwV 2 hts gL_isVisited_X6_of rfl rfl rfl (by decide +kernel) ⟨(Nat.le_of_ble_eq_true rfl), (Nat.le_of_ble_eq_true rfl)⟩) (PW_rc hK hW) hW rfl hl.1 (Nat.le_of_ble_eq_true rfl) dL_isVisited_10 ⟨Nat.zero_le _, Nat.zero_le _⟩ ?_
  refine lv_istore_n (lv' := [(3, .int (zI (τ (11 + 13 * k + 8)))), (2, .int (zI (bilA τ k))), (0, .ref (a 0)), (1, .int (zI k))]) hx hb dL_isVisited_13 rfl hl (by decide) rfl (fun ls hl => ?_)
  refine lv_aload_n hx hb dL_isVisited_14 rfl (lv_at hl 2 rfl) ?_
  refine x_bipush hx hb dL_isVisited_15 (by decide +kernel) ?_
  refine x_callVR (As := [.int (zI 7)]) (rest := []) S hK (p_count_7 l D cs a τ pd ln (by first | exact hG | exact hG2)) (cwV 1 hts gL_isVisited_X6_count rfl rfl rfl (by decide +kernel) ⟨(Nat.le_of_ble_eq_true rfl), (Nat.le_of_ble_eq_true rfl)⟩) (PW_rc hK hW) hW rfl hl.1 (Nat.le_of_ble_eq_true rfl) dL_isVisited_17 ⟨Nat.zero_le _, Nat.zero_le _⟩ ?_
  refine lv_istore (lv' := [(4, .int (zI (blC τ (τ 7).toNat))), (3, .int (zI (τ (11 + 13 * k + 8)))), (2, .int (zI (bilA τ k))), (0, .ref (a 0)), (1, .int (zI k))]) hx hb dL_isVisited_20 hl (by decide) rfl (fun ls hl => ?_)
  refine lv_aload_n hx hb dL_isVisited_22 rfl (lv_at hl 3 rfl) ?_
  refine lv_iload_n hx hb dL_isVisited_23 rfl (lv_at hl 4 rfl) ?_
  refine x_bipush hx hb dL_isVisited_24 (by decide +kernel) ?_
  refine x_callVR (As := [.int (zI k), .int (zI 7)]) (rest := []) S hK (p_of_7 l D cs a τ pd ln k (by first | exact hG | exact hG2) (by first | exact hk | exact hk2)) (cwV 2 hts gL_isVisited_X6_of rfl rfl rfl (by decide +kernel) ⟨(Nat.le_of_ble_eq_true rfl), (Nat.le_of_ble_eq_true rfl)⟩) (PW_rc hK hW) hW rfl hl.1 (Nat.le_of_ble_eq_true rfl) dL_isVisited_26 ⟨Nat.zero_le _, Nat.zero_le _⟩ ?_
  refine lv_istore (lv' := [(5, .int (zI (τ (11 + 13 * k + 6)))), (4, .int (zI (blC τ (τ 7).toNat))), (3, .int (zI (τ (11 + 13 * k + 8)))), (2, .int (zI (bilA τ k))), (0, .ref (a 0)), (1, .int (zI k))]) hx hb dL_isVisited_29 hl (by decide) rfl (fun ls hl => ?_)
  refine lv_aload_n hx hb dL_isVisited_31 rfl (lv_at hl 4 rfl) ?_
  refine x_bipush hx hb dL_isVisited_32 (by decide +kernel) ?_
  refine x_callVR (As := [.int (zI 8)]) (rest := []) S hK (p_count_8 l D cs a τ pd ln (by first | exact hG | exact hG2)) (cwV 1 hts gL_isVisited_X6_count rfl rfl rfl (by decide +kernel) ⟨(Nat.le_of_ble_eq_true rfl), (Nat.le_of_ble_eq_true rfl)⟩) (PW_rc hK hW) hW rfl hl.1 (Nat.le_of_ble_eq_true rfl) dL_isVisited_34 ⟨Nat.zero_le _, Nat.zero_le _⟩ ?_
  refine lv_istore (lv' := [(6, .int (zI (τ 10))), (5, .int (zI (τ (11 + 13 * k + 6)))), (4, .int (zI (blC τ (τ 7).toNat))), (3, .int (zI (τ (11 + 13 * k + 8)))), (2, .int (zI (bilA τ k))), (0, .ref (a 0)), (1, .int (zI k))]) hx hb dL_isVisited_37 hl (by decide) rfl (fun ls hl => ?_)
  refine lv_aload_n hx hb dL_isVisited_39 rfl (lv_at hl 5 rfl) ?_
  refine lv_iload_n hx hb dL_isVisited_40 rfl (lv_at hl 6 rfl) ?_
  refine x_bipush hx hb dL_isVisited_41 (by decide +kernel) ?_
  refine x_callVR (As := [.int (zI k), .int (zI 8)]) (rest := []) S hK (p_of_8 l D cs a τ pd ln k (by first | exact hG | exact hG2) (by first | exact hk | exact hk2)) (cwV 2 hts gL_isVisited_X6_of rfl rfl rfl (by decide +kernel) ⟨(Nat.le_of_ble_eq_true rfl), (Nat.le_of_ble_eq_true rfl)⟩) (PW_rc hK hW) hW rfl hl.1 (Nat.le_of_ble_eq_true rfl) dL_isVisited_43 ⟨Nat.zero_le _, Nat.zero_le _⟩ ?_
  refine x_iconst hx hb dL_isVisited_46 ?_
  refine x_icmp_ne (tgt := 54) hx hb dL_isVisited_47 (by decide) (by omega) (by omega) (fun c_47 => ?_) (fun c_47 => ?_)
  · refine x_iconst hx hb dL_isVisited_54 ?_
    refine lv_istore (lv' := [(7, .int (zI 0)), (6, .int (zI (τ 10))), (5, .int (zI (τ (11 + 13 * k + 6)))), (4, .int (zI (blC τ (τ 7).toNat))), (3, .int (zI (τ (11 + 13 * k + 8)))), (2, .int (zI (bilA τ k))), (0, .ref (a 0)), (1, .int (zI k))]) hx hb dL_isVisited_55 hl (by decide) rfl (fun ls hl => ?_)
    refine lv_aload_n hx hb dL_isVisited_57 rfl (lv_at hl 6 rfl) ?_
    refine lv_iload_n hx hb dL_isVisited_58 rfl (lv_at hl 7 rfl) ?_
    refine x_bipush hx hb dL_isVisited_59 (by decide +kernel) ?_
    refine x_callVR (As := [.int (zI k), .int (zI 11)]) (rest := []) S hK (p_of_11 l D cs a τ pd ln k (by first | exact hG | exact hG2) (by first | exact hk | exact hk2)) (cwV 2 hts gL_isVisited_X6_of rfl rfl rfl (by decide +kernel) ⟨(Nat.le_of_ble_eq_true rfl), (Nat.le_of_ble_eq_true rfl)⟩) (PW_rc hK hW) hW rfl hl.1 (Nat.le_of_ble_eq_true rfl) dL_isVisited_61 ⟨Nat.zero_le _, Nat.zero_le _⟩ ?_
    refine lv_istore (lv' := [(8, .int (zI (τ (11 + 13 * k + 10)))), (7, .int (zI 0)), (6, .int (zI (τ 10))), (5, .int (zI (τ (11 + 13 * k + 6)))), (4, .int (zI (blC τ (τ 7).toNat))), (3, .int (zI (τ (11 + 13 * k + 8)))), (2, .int (zI (bilA τ k))), (0, .ref (a 0)), (1, .int (zI k))]) hx hb dL_isVisited_64 hl (by decide) rfl (fun ls hl => ?_)
    refine lv_aload_n hx hb dL_isVisited_66 rfl (lv_at hl 7 rfl) ?_
    refine lv_iload_n hx hb dL_isVisited_67 rfl (lv_at hl 8 rfl) ?_
    refine x_callVR (As := [.int (zI k)]) (rest := []) S hK (p_misses l D cs a τ pd ln k (by first | exact hG | exact hG2) (by first | exact hk | exact hk2)) (cwV 1 hts gL_isVisited_X6_misses rfl rfl rfl (by decide +kernel) ⟨(Nat.le_of_ble_eq_true rfl), (Nat.le_of_ble_eq_true rfl)⟩) (PW_rc hK hW) hW rfl hl.1 (Nat.le_of_ble_eq_true rfl) dL_isVisited_68 ⟨Nat.zero_le _, Nat.zero_le _⟩ ?_
    refine lv_lstore (lv' := [(9, .long (zL (msA τ k))), (8, .int (zI (τ (11 + 13 * k + 10)))), (7, .int (zI 0)), (6, .int (zI (τ 10))), (5, .int (zI (τ (11 + 13 * k + 6)))), (4, .int (zI (blC τ (τ 7).toNat))), (3, .int (zI (τ (11 + 13 * k + 8)))), (2, .int (zI (bilA τ k))), (0, .ref (a 0)), (1, .int (zI k))]) hx hb dL_isVisited_71 hl (by decide) rfl (fun ls hl => ?_)
    obtain ⟨hG2, ⟨e7, e6, e3⟩, eB, e8, e77, e2, e10, eM, eb0, ew, d1, d2⟩ := vs_all hG hN9 hk
    have hk2 : 0 ≤ k ∧ k < inF τ k 7 := by omega
    refine lv_aload_n hx hb dL_isVisited_73 rfl (lv_at hl 8 rfl) ?_
    refine lv_iload_n hx hb dL_isVisited_74 rfl (lv_at hl 9 rfl) ?_
    refine x_callVM (As := [.int (zI k)]) (rest := []) S hK (p_visit l D cs a τ pd ln k (by first | exact hG | exact hG2) (by exact hI) (by first | exact hk | exact hk2)) (cwV 1 hts gL_isVisited_X6_visit rfl rfl rfl (by decide +kernel) ⟨(Nat.le_of_ble_eq_true rfl), (Nat.le_of_ble_eq_true rfl)⟩) (PW_rc hK hW) hW rfl hl.1 (Nat.le_of_ble_eq_true rfl) dL_isVisited_75 ⟨Nat.zero_le _, Nat.zero_le _⟩ hS (fun q hq => hq) (fun H locs hB hF hS => ?_)
    have hW : PW D cs a (inF τ k) pd ln H := hB
    refine lv_iload_n hx hb dL_isVisited_78 rfl (lv_at hl 7 rfl) ?_
    refine x_icmp_neE (tgt := 178) hx hb dL_isVisited_79 (by decide) (by omega) ?_
    refine lv_aload_n hx hb dL_isVisited_82 rfl (lv_at hl 8 rfl) ?_
    refine lv_iload_n hx hb dL_isVisited_83 rfl (lv_at hl 9 rfl) ?_
    refine x_bipush hx hb dL_isVisited_84 (by decide +kernel) ?_
    refine x_callVR (As := [.int (zI k), .int (zI 9)]) (rest := []) S hK (p_of_9 l D cs a (inF τ k) pd ln k (by first | exact hG | exact hG2) (by first | exact hk | exact hk2)) (cwV 2 hts gL_isVisited_X6_of rfl rfl rfl (by decide +kernel) ⟨(Nat.le_of_ble_eq_true rfl), (Nat.le_of_ble_eq_true rfl)⟩) (PW_rc hK hW) hW rfl hl.1 (Nat.le_of_ble_eq_true rfl) dL_isVisited_86 ⟨Nat.zero_le _, Nat.zero_le _⟩ ?_
    refine lv_iload_n hx hb dL_isVisited_89 rfl (lv_at hl 6 rfl) ?_
    refine lv_iload_n hx hb dL_isVisited_90 rfl (lv_at hl 7 rfl) ?_
    refine x_iadd hx hb dL_isVisited_91 ?_
    refine x_icmp_neE (tgt := 178) hx hb dL_isVisited_92 (by decide) (by omega) ?_
    refine lv_aload_n hx hb dL_isVisited_95 rfl (lv_at hl 8 rfl) ?_
    refine x_bipush hx hb dL_isVisited_96 (by decide +kernel) ?_
    refine x_callVR (As := [.int (zI 7)]) (rest := []) S hK (p_count_7 l D cs a (inF τ k) pd ln (by first | exact hG | exact hG2)) (cwV 1 hts gL_isVisited_X6_count rfl rfl rfl (by decide +kernel) ⟨(Nat.le_of_ble_eq_true rfl), (Nat.le_of_ble_eq_true rfl)⟩) (PW_rc hK hW) hW rfl hl.1 (Nat.le_of_ble_eq_true rfl) dL_isVisited_98 ⟨Nat.zero_le _, Nat.zero_le _⟩ ?_
    refine lv_iload hx hb dL_isVisited_101 (lv_at hl 5 rfl) ?_
    refine lv_iload_n hx hb dL_isVisited_103 rfl (lv_at hl 7 rfl) ?_
    refine x_iadd hx hb dL_isVisited_104 ?_
    refine x_icmp_neE (tgt := 178) hx hb dL_isVisited_105 (by decide) (by omega) ?_
    refine lv_aload_n hx hb dL_isVisited_108 rfl (lv_at hl 8 rfl) ?_
    refine lv_iload_n hx hb dL_isVisited_109 rfl (lv_at hl 9 rfl) ?_
    refine x_bipush hx hb dL_isVisited_110 (by decide +kernel) ?_
    refine x_callVR (As := [.int (zI k), .int (zI 8)]) (rest := []) S hK (p_of_8 l D cs a (inF τ k) pd ln k (by first | exact hG | exact hG2) (by first | exact hk | exact hk2)) (cwV 2 hts gL_isVisited_X6_of rfl rfl rfl (by decide +kernel) ⟨(Nat.le_of_ble_eq_true rfl), (Nat.le_of_ble_eq_true rfl)⟩) (PW_rc hK hW) hW rfl hl.1 (Nat.le_of_ble_eq_true rfl) dL_isVisited_112 ⟨Nat.zero_le _, Nat.zero_le _⟩ ?_
    refine x_if_neE (tgt := 178) hx hb dL_isVisited_115 (by decide) (by omega) ?_
    refine lv_aload_n hx hb dL_isVisited_118 rfl (lv_at hl 8 rfl) ?_
    refine lv_iload_n hx hb dL_isVisited_119 rfl (lv_at hl 9 rfl) ?_
    refine x_iconst hx hb dL_isVisited_120 ?_
    refine x_callVR (As := [.int (zI k), .int (zI 3)]) (rest := []) S hK (p_of_3 l D cs a (inF τ k) pd ln k (by first | exact hG | exact hG2) (by first | exact hk | exact hk2)) (cwV 2 hts gL_isVisited_X6_of rfl rfl rfl (by decide +kernel) ⟨(Nat.le_of_ble_eq_true rfl), (Nat.le_of_ble_eq_true rfl)⟩) (PW_rc hK hW) hW rfl hl.1 (Nat.le_of_ble_eq_true rfl) dL_isVisited_121 ⟨Nat.zero_le _, Nat.zero_le _⟩ ?_
    refine x_bipush hx hb dL_isVisited_124 (by decide +kernel) ?_
    refine x_icmp_neE (tgt := 178) hx hb dL_isVisited_126 (by decide) (by omega) ?_
    refine lv_aload_n hx hb dL_isVisited_129 rfl (lv_at hl 8 rfl) ?_
    refine lv_iload_n hx hb dL_isVisited_130 rfl (lv_at hl 9 rfl) ?_
    refine x_bipush hx hb dL_isVisited_131 (by decide +kernel) ?_
    refine x_callVR (As := [.int (zI k), .int (zI 11)]) (rest := []) S hK (p_of_11 l D cs a (inF τ k) pd ln k (by first | exact hG | exact hG2) (by first | exact hk | exact hk2)) (cwV 2 hts gL_isVisited_X6_of rfl rfl rfl (by decide +kernel) ⟨(Nat.le_of_ble_eq_true rfl), (Nat.le_of_ble_eq_true rfl)⟩) (PW_rc hK hW) hW rfl hl.1 (Nat.le_of_ble_eq_true rfl) dL_isVisited_133 ⟨Nat.zero_le _, Nat.zero_le _⟩ ?_
    refine lv_iload hx hb dL_isVisited_136 (lv_at hl 1 rfl) ?_
    refine x_iconst hx hb dL_isVisited_138 ?_
    refine x_iadd hx hb dL_isVisited_139 ?_
    refine x_icmp_neE (tgt := 178) hx hb dL_isVisited_140 (by decide) (by omega) ?_
    refine lv_aload_n hx hb dL_isVisited_143 rfl (lv_at hl 8 rfl) ?_
    refine lv_iload_n hx hb dL_isVisited_144 rfl (lv_at hl 9 rfl) ?_
    refine x_callVR (As := [.int (zI k)]) (rest := []) S hK (p_misses l D cs a (inF τ k) pd ln k (by first | exact hG | exact hG2) (by first | exact hk | exact hk2)) (cwV 1 hts gL_isVisited_X6_misses rfl rfl rfl (by decide +kernel) ⟨(Nat.le_of_ble_eq_true rfl), (Nat.le_of_ble_eq_true rfl)⟩) (PW_rc hK hW) hW rfl hl.1 (Nat.le_of_ble_eq_true rfl) dL_isVisited_145 ⟨Nat.zero_le _, Nat.zero_le _⟩ ?_
    refine lv_lload hx hb dL_isVisited_148 (lv_at hl 0 rfl) ?_
    refine x_lcmp_neE (tgt := 178) hx hb dL_isVisited_150 dL_isVisited_151 (by decide) (by omega) ?_
    refine lv_aload_n hx hb dL_isVisited_154 rfl (lv_at hl 8 rfl) ?_
    refine lv_iload_n hx hb dL_isVisited_155 rfl (lv_at hl 9 rfl) ?_
    refine x_callVR (As := [.int (zI k)]) (rest := []) S hK (p_bill l D cs a (inF τ k) pd ln k (by first | exact hG | exact hG2) (by first | exact hk | exact hk2)) (cwV 1 hts gL_isVisited_X6_bill rfl rfl rfl (by decide +kernel) ⟨(Nat.le_of_ble_eq_true rfl), (Nat.le_of_ble_eq_true rfl)⟩) (PW_rc hK hW) hW rfl hl.1 (Nat.le_of_ble_eq_true rfl) dL_isVisited_156 ⟨Nat.zero_le _, Nat.zero_le _⟩ ?_
    refine x_if_neE (tgt := 178) hx hb dL_isVisited_159 (by decide) (by omega) ?_
    refine lv_aload_n hx hb dL_isVisited_162 rfl (lv_at hl 8 rfl) ?_
    refine lv_iload_n hx hb dL_isVisited_163 rfl (lv_at hl 9 rfl) ?_
    refine x_bipush hx hb dL_isVisited_164 (by decide +kernel) ?_
    refine x_callVR (As := [.int (zI k), .int (zI 10)]) (rest := []) S hK (p_of_10 l D cs a (inF τ k) pd ln k (by first | exact hG | exact hG2) (by first | exact hk | exact hk2)) (cwV 2 hts gL_isVisited_X6_of rfl rfl rfl (by decide +kernel) ⟨(Nat.le_of_ble_eq_true rfl), (Nat.le_of_ble_eq_true rfl)⟩) (PW_rc hK hW) hW rfl hl.1 (Nat.le_of_ble_eq_true rfl) dL_isVisited_166 ⟨Nat.zero_le _, Nat.zero_le _⟩ ?_
    refine lv_aload_n hx hb dL_isVisited_169 rfl (lv_at hl 8 rfl) ?_
    refine x_bipush hx hb dL_isVisited_170 (by decide +kernel) ?_
    refine x_callVR (As := [.int (zI 12)]) (rest := [.int (zI (wkA (inF τ k) k))]) S hK (p_count_12 l D cs a (inF τ k) pd ln (by first | exact hG | exact hG2)) (cwV 1 hts gL_isVisited_X6_count rfl rfl rfl (by decide +kernel) ⟨(Nat.le_of_ble_eq_true rfl), (Nat.le_of_ble_eq_true rfl)⟩) (PW_rc hK hW) hW rfl hl.1 (Nat.le_of_ble_eq_true rfl) dL_isVisited_172 ⟨Nat.zero_le _, Nat.zero_le _⟩ ?_
    refine x_icmp_eqE (tgt := 180) hx hb dL_isVisited_175 (by decide) (by omega) ?_
    refine lv_iload hx hb dL_isVisited_180 (lv_at hl 2 rfl) ?_
    refine x_if_eq (tgt := 220) hx hb dL_isVisited_182 (by decide) (by decide) (fun _ => ?_) (fun q => absurd q (by decide))
    refine lv_aload_n hx hb dL_isVisited_220 rfl (lv_at hl 8 rfl) ?_
    refine lv_iload_n hx hb dL_isVisited_221 rfl (lv_at hl 9 rfl) ?_
    refine x_bipush hx hb dL_isVisited_222 (by decide +kernel) ?_
    refine x_callVR (As := [.int (zI k), .int (zI 7)]) (rest := []) S hK (p_of_7 l D cs a (inF τ k) pd ln k (by first | exact hG | exact hG2) (by first | exact hk | exact hk2)) (cwV 2 hts gL_isVisited_X6_of rfl rfl rfl (by decide +kernel) ⟨(Nat.le_of_ble_eq_true rfl), (Nat.le_of_ble_eq_true rfl)⟩) (PW_rc hK hW) hW rfl hl.1 (Nat.le_of_ble_eq_true rfl) dL_isVisited_224 ⟨Nat.zero_le _, Nat.zero_le _⟩ ?_
    refine lv_iload hx hb dL_isVisited_227 (lv_at hl 4 rfl) ?_
    refine x_icmp_neE (tgt := 247) hx hb dL_isVisited_229 (by decide) (by omega) ?_
    refine lv_aload_n hx hb dL_isVisited_232 rfl (lv_at hl 8 rfl) ?_
    refine x_bipush hx hb dL_isVisited_233 (by decide +kernel) ?_
    refine x_callVR (As := [.int (zI 8)]) (rest := []) S hK (p_count_8 l D cs a (inF τ k) pd ln (by first | exact hG | exact hG2)) (cwV 1 hts gL_isVisited_X6_count rfl rfl rfl (by decide +kernel) ⟨(Nat.le_of_ble_eq_true rfl), (Nat.le_of_ble_eq_true rfl)⟩) (PW_rc hK hW) hW rfl hl.1 (Nat.le_of_ble_eq_true rfl) dL_isVisited_235 ⟨Nat.zero_le _, Nat.zero_le _⟩ ?_
    refine lv_iload hx hb dL_isVisited_238 (lv_at hl 3 rfl) ?_
    refine x_icmp_neE (tgt := 247) hx hb dL_isVisited_240 (by decide) (by omega) ?_
    refine x_iconst hx hb dL_isVisited_243 ?_
    refine lv_goto (tgt := 248) hx hb dL_isVisited_244 (by decide) ?_
    exact x_zretM hx hb hr hlocks (by first | rfl | omega) (by exact Or.inr rfl) hW hS dL_isVisited_248
  · refine x_iconst hx hb dL_isVisited_50 ?_
    refine lv_goto (tgt := 55) hx hb dL_isVisited_51 (by decide) ?_
    refine lv_istore (lv' := [(7, .int (zI 1)), (6, .int (zI (τ 10))), (5, .int (zI (τ (11 + 13 * k + 6)))), (4, .int (zI (blC τ (τ 7).toNat))), (3, .int (zI (τ (11 + 13 * k + 8)))), (2, .int (zI (bilA τ k))), (0, .ref (a 0)), (1, .int (zI k))]) hx hb dL_isVisited_55 hl (by decide) rfl (fun ls hl => ?_)
    refine lv_aload_n hx hb dL_isVisited_57 rfl (lv_at hl 6 rfl) ?_
    refine lv_iload_n hx hb dL_isVisited_58 rfl (lv_at hl 7 rfl) ?_
    refine x_bipush hx hb dL_isVisited_59 (by decide +kernel) ?_
    refine x_callVR (As := [.int (zI k), .int (zI 11)]) (rest := []) S hK (p_of_11 l D cs a τ pd ln k (by first | exact hG | exact hG2) (by first | exact hk | exact hk2)) (cwV 2 hts gL_isVisited_X6_of rfl rfl rfl (by decide +kernel) ⟨(Nat.le_of_ble_eq_true rfl), (Nat.le_of_ble_eq_true rfl)⟩) (PW_rc hK hW) hW rfl hl.1 (Nat.le_of_ble_eq_true rfl) dL_isVisited_61 ⟨Nat.zero_le _, Nat.zero_le _⟩ ?_
    refine lv_istore (lv' := [(8, .int (zI (τ (11 + 13 * k + 10)))), (7, .int (zI 1)), (6, .int (zI (τ 10))), (5, .int (zI (τ (11 + 13 * k + 6)))), (4, .int (zI (blC τ (τ 7).toNat))), (3, .int (zI (τ (11 + 13 * k + 8)))), (2, .int (zI (bilA τ k))), (0, .ref (a 0)), (1, .int (zI k))]) hx hb dL_isVisited_64 hl (by decide) rfl (fun ls hl => ?_)
    refine lv_aload_n hx hb dL_isVisited_66 rfl (lv_at hl 7 rfl) ?_
    refine lv_iload_n hx hb dL_isVisited_67 rfl (lv_at hl 8 rfl) ?_
    refine x_callVR (As := [.int (zI k)]) (rest := []) S hK (p_misses l D cs a τ pd ln k (by first | exact hG | exact hG2) (by first | exact hk | exact hk2)) (cwV 1 hts gL_isVisited_X6_misses rfl rfl rfl (by decide +kernel) ⟨(Nat.le_of_ble_eq_true rfl), (Nat.le_of_ble_eq_true rfl)⟩) (PW_rc hK hW) hW rfl hl.1 (Nat.le_of_ble_eq_true rfl) dL_isVisited_68 ⟨Nat.zero_le _, Nat.zero_le _⟩ ?_
    refine lv_lstore (lv' := [(9, .long (zL (msA τ k))), (8, .int (zI (τ (11 + 13 * k + 10)))), (7, .int (zI 1)), (6, .int (zI (τ 10))), (5, .int (zI (τ (11 + 13 * k + 6)))), (4, .int (zI (blC τ (τ 7).toNat))), (3, .int (zI (τ (11 + 13 * k + 8)))), (2, .int (zI (bilA τ k))), (0, .ref (a 0)), (1, .int (zI k))]) hx hb dL_isVisited_71 hl (by decide) rfl (fun ls hl => ?_)
    obtain ⟨hG2, ⟨e7, e6, e3⟩, eB, e8, e77, e2, e10, eM, eb0, ew, d1, d2⟩ := vs_all hG hN9 hk
    have hk2 : 0 ≤ k ∧ k < inF τ k 7 := by omega
    refine lv_aload_n hx hb dL_isVisited_73 rfl (lv_at hl 8 rfl) ?_
    refine lv_iload_n hx hb dL_isVisited_74 rfl (lv_at hl 9 rfl) ?_
    refine x_callVM (As := [.int (zI k)]) (rest := []) S hK (p_visit l D cs a τ pd ln k (by first | exact hG | exact hG2) (by exact hI) (by first | exact hk | exact hk2)) (cwV 1 hts gL_isVisited_X6_visit rfl rfl rfl (by decide +kernel) ⟨(Nat.le_of_ble_eq_true rfl), (Nat.le_of_ble_eq_true rfl)⟩) (PW_rc hK hW) hW rfl hl.1 (Nat.le_of_ble_eq_true rfl) dL_isVisited_75 ⟨Nat.zero_le _, Nat.zero_le _⟩ hS (fun q hq => hq) (fun H locs hB hF hS => ?_)
    have hW : PW D cs a (inF τ k) pd ln H := hB
    refine lv_iload_n hx hb dL_isVisited_78 rfl (lv_at hl 7 rfl) ?_
    refine x_icmp_neE (tgt := 178) hx hb dL_isVisited_79 (by decide) (by omega) ?_
    refine lv_aload_n hx hb dL_isVisited_82 rfl (lv_at hl 8 rfl) ?_
    refine lv_iload_n hx hb dL_isVisited_83 rfl (lv_at hl 9 rfl) ?_
    refine x_bipush hx hb dL_isVisited_84 (by decide +kernel) ?_
    refine x_callVR (As := [.int (zI k), .int (zI 9)]) (rest := []) S hK (p_of_9 l D cs a (inF τ k) pd ln k (by first | exact hG | exact hG2) (by first | exact hk | exact hk2)) (cwV 2 hts gL_isVisited_X6_of rfl rfl rfl (by decide +kernel) ⟨(Nat.le_of_ble_eq_true rfl), (Nat.le_of_ble_eq_true rfl)⟩) (PW_rc hK hW) hW rfl hl.1 (Nat.le_of_ble_eq_true rfl) dL_isVisited_86 ⟨Nat.zero_le _, Nat.zero_le _⟩ ?_
    refine lv_iload_n hx hb dL_isVisited_89 rfl (lv_at hl 6 rfl) ?_
    refine lv_iload_n hx hb dL_isVisited_90 rfl (lv_at hl 7 rfl) ?_
    refine x_iadd hx hb dL_isVisited_91 ?_
    refine x_icmp_neE (tgt := 178) hx hb dL_isVisited_92 (by decide) (by omega) ?_
    refine lv_aload_n hx hb dL_isVisited_95 rfl (lv_at hl 8 rfl) ?_
    refine x_bipush hx hb dL_isVisited_96 (by decide +kernel) ?_
    refine x_callVR (As := [.int (zI 7)]) (rest := []) S hK (p_count_7 l D cs a (inF τ k) pd ln (by first | exact hG | exact hG2)) (cwV 1 hts gL_isVisited_X6_count rfl rfl rfl (by decide +kernel) ⟨(Nat.le_of_ble_eq_true rfl), (Nat.le_of_ble_eq_true rfl)⟩) (PW_rc hK hW) hW rfl hl.1 (Nat.le_of_ble_eq_true rfl) dL_isVisited_98 ⟨Nat.zero_le _, Nat.zero_le _⟩ ?_
    refine lv_iload hx hb dL_isVisited_101 (lv_at hl 5 rfl) ?_
    refine lv_iload_n hx hb dL_isVisited_103 rfl (lv_at hl 7 rfl) ?_
    refine x_iadd hx hb dL_isVisited_104 ?_
    refine x_icmp_neE (tgt := 178) hx hb dL_isVisited_105 (by decide) (by omega) ?_
    refine lv_aload_n hx hb dL_isVisited_108 rfl (lv_at hl 8 rfl) ?_
    refine lv_iload_n hx hb dL_isVisited_109 rfl (lv_at hl 9 rfl) ?_
    refine x_bipush hx hb dL_isVisited_110 (by decide +kernel) ?_
    refine x_callVR (As := [.int (zI k), .int (zI 8)]) (rest := []) S hK (p_of_8 l D cs a (inF τ k) pd ln k (by first | exact hG | exact hG2) (by first | exact hk | exact hk2)) (cwV 2 hts gL_isVisited_X6_of rfl rfl rfl (by decide +kernel) ⟨(Nat.le_of_ble_eq_true rfl), (Nat.le_of_ble_eq_true rfl)⟩) (PW_rc hK hW) hW rfl hl.1 (Nat.le_of_ble_eq_true rfl) dL_isVisited_112 ⟨Nat.zero_le _, Nat.zero_le _⟩ ?_
    refine x_if_neE (tgt := 178) hx hb dL_isVisited_115 (by decide) (by omega) ?_
    refine lv_aload_n hx hb dL_isVisited_118 rfl (lv_at hl 8 rfl) ?_
    refine lv_iload_n hx hb dL_isVisited_119 rfl (lv_at hl 9 rfl) ?_
    refine x_iconst hx hb dL_isVisited_120 ?_
    refine x_callVR (As := [.int (zI k), .int (zI 3)]) (rest := []) S hK (p_of_3 l D cs a (inF τ k) pd ln k (by first | exact hG | exact hG2) (by first | exact hk | exact hk2)) (cwV 2 hts gL_isVisited_X6_of rfl rfl rfl (by decide +kernel) ⟨(Nat.le_of_ble_eq_true rfl), (Nat.le_of_ble_eq_true rfl)⟩) (PW_rc hK hW) hW rfl hl.1 (Nat.le_of_ble_eq_true rfl) dL_isVisited_121 ⟨Nat.zero_le _, Nat.zero_le _⟩ ?_
    refine x_bipush hx hb dL_isVisited_124 (by decide +kernel) ?_
    refine x_icmp_neE (tgt := 178) hx hb dL_isVisited_126 (by decide) (by omega) ?_
    refine lv_aload_n hx hb dL_isVisited_129 rfl (lv_at hl 8 rfl) ?_
    refine lv_iload_n hx hb dL_isVisited_130 rfl (lv_at hl 9 rfl) ?_
    refine x_bipush hx hb dL_isVisited_131 (by decide +kernel) ?_
    refine x_callVR (As := [.int (zI k), .int (zI 11)]) (rest := []) S hK (p_of_11 l D cs a (inF τ k) pd ln k (by first | exact hG | exact hG2) (by first | exact hk | exact hk2)) (cwV 2 hts gL_isVisited_X6_of rfl rfl rfl (by decide +kernel) ⟨(Nat.le_of_ble_eq_true rfl), (Nat.le_of_ble_eq_true rfl)⟩) (PW_rc hK hW) hW rfl hl.1 (Nat.le_of_ble_eq_true rfl) dL_isVisited_133 ⟨Nat.zero_le _, Nat.zero_le _⟩ ?_
    refine lv_iload hx hb dL_isVisited_136 (lv_at hl 1 rfl) ?_
    refine x_iconst hx hb dL_isVisited_138 ?_
    refine x_iadd hx hb dL_isVisited_139 ?_
    refine x_icmp_neE (tgt := 178) hx hb dL_isVisited_140 (by decide) (by omega) ?_
    refine lv_aload_n hx hb dL_isVisited_143 rfl (lv_at hl 8 rfl) ?_
    refine lv_iload_n hx hb dL_isVisited_144 rfl (lv_at hl 9 rfl) ?_
    refine x_callVR (As := [.int (zI k)]) (rest := []) S hK (p_misses l D cs a (inF τ k) pd ln k (by first | exact hG | exact hG2) (by first | exact hk | exact hk2)) (cwV 1 hts gL_isVisited_X6_misses rfl rfl rfl (by decide +kernel) ⟨(Nat.le_of_ble_eq_true rfl), (Nat.le_of_ble_eq_true rfl)⟩) (PW_rc hK hW) hW rfl hl.1 (Nat.le_of_ble_eq_true rfl) dL_isVisited_145 ⟨Nat.zero_le _, Nat.zero_le _⟩ ?_
    refine lv_lload hx hb dL_isVisited_148 (lv_at hl 0 rfl) ?_
    refine x_lcmp_neE (tgt := 178) hx hb dL_isVisited_150 dL_isVisited_151 (by decide) (by omega) ?_
    refine lv_aload_n hx hb dL_isVisited_154 rfl (lv_at hl 8 rfl) ?_
    refine lv_iload_n hx hb dL_isVisited_155 rfl (lv_at hl 9 rfl) ?_
    refine x_callVR (As := [.int (zI k)]) (rest := []) S hK (p_bill l D cs a (inF τ k) pd ln k (by first | exact hG | exact hG2) (by first | exact hk | exact hk2)) (cwV 1 hts gL_isVisited_X6_bill rfl rfl rfl (by decide +kernel) ⟨(Nat.le_of_ble_eq_true rfl), (Nat.le_of_ble_eq_true rfl)⟩) (PW_rc hK hW) hW rfl hl.1 (Nat.le_of_ble_eq_true rfl) dL_isVisited_156 ⟨Nat.zero_le _, Nat.zero_le _⟩ ?_
    refine x_if_neE (tgt := 178) hx hb dL_isVisited_159 (by decide) (by omega) ?_
    refine lv_aload_n hx hb dL_isVisited_162 rfl (lv_at hl 8 rfl) ?_
    refine lv_iload_n hx hb dL_isVisited_163 rfl (lv_at hl 9 rfl) ?_
    refine x_bipush hx hb dL_isVisited_164 (by decide +kernel) ?_
    refine x_callVR (As := [.int (zI k), .int (zI 10)]) (rest := []) S hK (p_of_10 l D cs a (inF τ k) pd ln k (by first | exact hG | exact hG2) (by first | exact hk | exact hk2)) (cwV 2 hts gL_isVisited_X6_of rfl rfl rfl (by decide +kernel) ⟨(Nat.le_of_ble_eq_true rfl), (Nat.le_of_ble_eq_true rfl)⟩) (PW_rc hK hW) hW rfl hl.1 (Nat.le_of_ble_eq_true rfl) dL_isVisited_166 ⟨Nat.zero_le _, Nat.zero_le _⟩ ?_
    refine lv_aload_n hx hb dL_isVisited_169 rfl (lv_at hl 8 rfl) ?_
    refine x_bipush hx hb dL_isVisited_170 (by decide +kernel) ?_
    refine x_callVR (As := [.int (zI 12)]) (rest := [.int (zI (wkA (inF τ k) k))]) S hK (p_count_12 l D cs a (inF τ k) pd ln (by first | exact hG | exact hG2)) (cwV 1 hts gL_isVisited_X6_count rfl rfl rfl (by decide +kernel) ⟨(Nat.le_of_ble_eq_true rfl), (Nat.le_of_ble_eq_true rfl)⟩) (PW_rc hK hW) hW rfl hl.1 (Nat.le_of_ble_eq_true rfl) dL_isVisited_172 ⟨Nat.zero_le _, Nat.zero_le _⟩ ?_
    refine x_icmp_eqE (tgt := 180) hx hb dL_isVisited_175 (by decide) (by omega) ?_
    refine lv_iload hx hb dL_isVisited_180 (lv_at hl 2 rfl) ?_
    refine x_if_eq (tgt := 220) hx hb dL_isVisited_182 (by decide) (by decide) (fun q => absurd q (by decide)) (fun _ => ?_)
    refine lv_aload_n hx hb dL_isVisited_185 rfl (lv_at hl 8 rfl) ?_
    refine lv_iload_n hx hb dL_isVisited_186 rfl (lv_at hl 9 rfl) ?_
    refine x_bipush hx hb dL_isVisited_187 (by decide +kernel) ?_
    refine x_callVR (As := [.int (zI k), .int (zI 7)]) (rest := []) S hK (p_of_7 l D cs a (inF τ k) pd ln k (by first | exact hG | exact hG2) (by first | exact hk | exact hk2)) (cwV 2 hts gL_isVisited_X6_of rfl rfl rfl (by decide +kernel) ⟨(Nat.le_of_ble_eq_true rfl), (Nat.le_of_ble_eq_true rfl)⟩) (PW_rc hK hW) hW rfl hl.1 (Nat.le_of_ble_eq_true rfl) dL_isVisited_189 ⟨Nat.zero_le _, Nat.zero_le _⟩ ?_
    refine lv_iload hx hb dL_isVisited_192 (lv_at hl 3 rfl) ?_
    refine x_iconst hx hb dL_isVisited_194 ?_
    refine x_iadd hx hb dL_isVisited_195 ?_
    refine x_icmp_neE (tgt := 216) hx hb dL_isVisited_196 (by decide) (by omega) ?_
    refine lv_aload_n hx hb dL_isVisited_199 rfl (lv_at hl 8 rfl) ?_
    refine x_bipush hx hb dL_isVisited_200 (by decide +kernel) ?_
    refine x_callVR (As := [.int (zI 8)]) (rest := []) S hK (p_count_8 l D cs a (inF τ k) pd ln (by first | exact hG | exact hG2)) (cwV 1 hts gL_isVisited_X6_count rfl rfl rfl (by decide +kernel) ⟨(Nat.le_of_ble_eq_true rfl), (Nat.le_of_ble_eq_true rfl)⟩) (PW_rc hK hW) hW rfl hl.1 (Nat.le_of_ble_eq_true rfl) dL_isVisited_202 ⟨Nat.zero_le _, Nat.zero_le _⟩ ?_
    refine lv_iload hx hb dL_isVisited_205 (lv_at hl 3 rfl) ?_
    refine x_iconst hx hb dL_isVisited_207 ?_
    refine x_iadd hx hb dL_isVisited_208 ?_
    refine x_icmp_neE (tgt := 216) hx hb dL_isVisited_209 (by decide) (by omega) ?_
    refine x_iconst hx hb dL_isVisited_212 ?_
    refine lv_goto (tgt := 248) hx hb dL_isVisited_213 (by decide) ?_
    exact x_zretM hx hb hr hlocks (by first | rfl | omega) (by exact Or.inr rfl) hW hS dL_isVisited_248
