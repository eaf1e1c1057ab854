set_option maxHeartbeats 4000000 in
set_option maxRecDepth 100000 in
theorem c_X7_untilWeaker (l : Launch) (D : va_G) (cs : Nat → ClassId) (a : Int → Nat) (σ : Int → Int) (pa : Int → Int) (sl : Int → Int) (sv : Int → Int) (pd : Int → Int) (kn : Int) (ln : Int) (k : Int) (hk : 0 ≤ k ∧ k < 7) (ha : 0 ≤ σ (11 + 13 * k + 9) ∧ σ (11 + 13 * k + 9) ≤ 5000) (hs : 100 ≤ σ (11 + 13 * k + 2) ∧ σ (11 + 13 * k + 2) ≤ 160) (h3 : 100 ≤ σ 3 ∧ σ 3 ≤ 5000) : kR D cs l yX7_untilWeaker wsX7_untilWeaker ({ frames := 2, cells := 0, slots := 0, locals := 43 } : Room) [.ref (a 0), .int (zI k)] (fun H => mAt D cs a σ pa sl sv pd kn ln H) (some (.int (zI (unW σ k)))) := by
  refine Met.ofW (cc := cX7_untilWeaker) (maxL := 3) (ret := (some .int)) (by decide) rfl ?_
  intro p e s m args below meth c s₁ B hml hv
  obtain ⟨rfl, hK, hM⟩ := hv
  have hx := B.exec
  have hb := B.bytes
  have hr := B.returns
  have hts := atoms_spec (ws := wsX7_untilWeaker) B.pre
  have hown : s.vm.findClass RX7 = some m.cls := findClass_of_methodNamed B.named
  have hlocks := B.notSynchronized
  have S : CallFix p m c cX7_untilWeaker 3 s (([.ref (a 0), .int (zI k)] : List Value)).toArray wsX7_untilWeaker RX7 := ⟨hx, hb, hml, hown, hts⟩
  have hl := lv_entry ([.ref (a 0), .int (zI k)]) (n := 3) (Nat.le_of_ble_eq_true rfl)
  rw [lg_entry_eq]
  generalize (lg_sl ([.ref (a 0), .int (zI k)]) ++ List.replicate (3 - (lg_sl ([.ref (a 0), .int (zI k)])).length) Slot.unset).toArray = ls at hl ⊢
  have hl : lv_has ls 3 [(0, .ref (a 0)), (1, .int (zI k))] := hl
  refine lv_aload_n hx hb dX7_untilWeaker_0 rfl (lv_at hl 0 rfl) ?_
  refine x_iconst hx hb dX7_untilWeaker_1 ?_
  refine x_callVR (As := [.int (zI 3)]) (rest := []) S hK (c_X7_num l D cs a σ pa sl sv pd kn ln 3 (by omega)) (cwV 1 hts gX7_untilWeaker_X7_num rfl rfl rfl (by decide +kernel) ⟨(Nat.le_of_ble_eq_true rfl), (Nat.le_of_ble_eq_true rfl)⟩) (x_rc hK (mAt_0 hM) rfl) hM rfl hl.1 (Nat.le_of_ble_eq_true rfl) dX7_untilWeaker_2 ⟨Nat.zero_le _, Nat.zero_le _⟩ ?_
  refine lv_aload_n hx hb dX7_untilWeaker_5 rfl (lv_at hl 0 rfl) ?_
  refine lv_iload_n hx hb dX7_untilWeaker_6 rfl (lv_at hl 1 rfl) ?_
  refine x_bipush hx hb dX7_untilWeaker_7 (by decide +kernel) ?_
  refine x_callVR (As := [.int (zI k), .int (zI 9)]) (rest := [.int (zI (σ 3))]) S hK (c_X7_its l D cs a σ pa sl sv pd kn ln k 9 (by omega) (by omega)) (cwV 2 hts gX7_untilWeaker_X7_its rfl rfl rfl (by decide +kernel) ⟨(Nat.le_of_ble_eq_true rfl), (Nat.le_of_ble_eq_true rfl)⟩) (x_rc hK (mAt_0 hM) rfl) hM rfl hl.1 (Nat.le_of_ble_eq_true rfl) dX7_untilWeaker_9 ⟨Nat.zero_le _, Nat.zero_le _⟩ ?_
  refine x_isub hx hb dX7_untilWeaker_12 ?_
  refine lv_istore_n (lv' := [(2, .int (zI ((σ 3) - (σ (11 + 13 * k + 9))))), (0, .ref (a 0)), (1, .int (zI k))]) hx hb dX7_untilWeaker_13 rfl hl (by decide) rfl (fun ls hl => ?_)
  refine lv_aload_n hx hb dX7_untilWeaker_14 rfl (lv_at hl 1 rfl) ?_
  refine lv_iload_n hx hb dX7_untilWeaker_15 rfl (lv_at hl 2 rfl) ?_
  refine x_iconst hx hb dX7_untilWeaker_16 ?_
  refine x_callVR (As := [.int (zI k), .int (zI 2)]) (rest := []) S hK (c_X7_its l D cs a σ pa sl sv pd kn ln k 2 (by omega) (by omega)) (cwV 2 hts gX7_untilWeaker_X7_its rfl rfl rfl (by decide +kernel) ⟨(Nat.le_of_ble_eq_true rfl), (Nat.le_of_ble_eq_true rfl)⟩) (x_rc hK (mAt_0 hM) rfl) hM rfl hl.1 (Nat.le_of_ble_eq_true rfl) dX7_untilWeaker_17 ⟨Nat.zero_le _, Nat.zero_le _⟩ ?_
  refine x_sipush hx hb dX7_untilWeaker_20 (by decide +kernel) ?_
  refine x_icmp_ne (tgt := 31) hx hb dX7_untilWeaker_23 (by decide) (by omega) (by omega) (fun c_23 => ?_) (fun c_23 => ?_)
  · refine lv_iload_n hx hb dX7_untilWeaker_31 rfl (lv_at hl 0 rfl) ?_
    refine x_iconst hx hb dX7_untilWeaker_32 ?_
    refine x_icmp_ge (tgt := 40) hx hb dX7_untilWeaker_33 (by decide) (by omega) (by omega) (fun c_33 => ?_) (fun c_33 => ?_)
    · refine lv_iload_n hx hb dX7_untilWeaker_40 rfl (lv_at hl 0 rfl) ?_
      exact x_iretR hx hb hr hlocks (by unfold unW; repeat (first | rw [if_pos (by omega)] | rw [if_neg (by omega)])) rfl dX7_untilWeaker_41
    · refine x_iconst hx hb dX7_untilWeaker_36 ?_
      refine lv_goto (tgt := 41) hx hb dX7_untilWeaker_37 (by decide) ?_
      exact x_iretR hx hb hr hlocks (by unfold unW; repeat (first | rw [if_pos (by omega)] | rw [if_neg (by omega)])) rfl dX7_untilWeaker_41
  · refine x_bipush hx hb dX7_untilWeaker_26 (by decide +kernel) ?_
    refine lv_goto (tgt := 41) hx hb dX7_untilWeaker_28 (by decide) ?_
    exact x_iretR hx hb hr hlocks (by unfold unW; repeat (first | rw [if_pos (by omega)] | rw [if_neg (by omega)])) rfl dX7_untilWeaker_41
set_option maxHeartbeats 4000000 in
set_option maxRecDepth 100000 in
theorem c_X7_of_bad (l : Launch) (D : va_G) (cs : Nat → ClassId) (a : Int → Nat) (σ : Int → Int) (pa : Int → Int) (sl : Int → Int) (sv : Int → Int) (pd : Int → Int) (kn : Int) (ln : Int) (k : Int) (w : Int) (h7 : 0 ≤ σ 7 ∧ σ 7 ≤ 7) (hk : -2147483648 ≤ k ∧ k < 2147483648) (hn : ¬ (0 ≤ k ∧ k < σ 7)) : kR D cs l yX7_of wsX7_of ({ frames := 4, cells := 0, slots := 0, locals := 90 } : Room) [.ref (a 0), .int (zI k), .int (zI w)] (fun H => mAt D cs a σ pa sl sv pd kn ln H) (some (.int (zI (-1)))) := by
  refine Met.ofW (cc := cX7_of) (maxL := 3) (ret := (some .int)) (by decide) rfl ?_
  intro p e s m args below meth c s₁ B hml hv
  obtain ⟨rfl, hK, hM⟩ := hv
  have hx := B.exec
  have hb := B.bytes
  have hr := B.returns
  have hts := atoms_spec (ws := wsX7_of) B.pre
  have hown : s.vm.findClass RX7 = some m.cls := findClass_of_methodNamed B.named
  have hlocks := B.notSynchronized
  have S : CallFix p m c cX7_of 3 s (([.ref (a 0), .int (zI k), .int (zI w)] : List Value)).toArray wsX7_of RX7 := ⟨hx, hb, hml, hown, hts⟩
  have hin7 : ∀ w ∈ wsX70, w ∈ wsX7_of := by decide +kernel
  have hl := lv_entry ([.ref (a 0), .int (zI k), .int (zI w)]) (n := 3) (Nat.le_of_ble_eq_true rfl)
  rw [lg_entry_eq]
  generalize (lg_sl ([.ref (a 0), .int (zI k), .int (zI w)]) ++ List.replicate (3 - (lg_sl ([.ref (a 0), .int (zI k), .int (zI w)])).length) Slot.unset).toArray = ls at hl ⊢
  have hl : lv_has ls 3 [(0, .ref (a 0)), (1, .int (zI k)), (2, .int (zI w))] := hl
  refine lv_aload_n hx hb dX7_of_0 rfl (lv_at hl 0 rfl) ?_
  refine lv_iload_n hx hb dX7_of_1 rfl (lv_at hl 1 rfl) ?_
  refine x_callVR (As := [.int (zI k)]) (rest := []) S hK (c_X7_isMeter l D cs a σ pa sl sv pd kn ln k (by omega) (by omega)) (cwV 1 hts gX7_of_X7_isMeter rfl rfl rfl (by decide +kernel) ⟨(Nat.le_of_ble_eq_true rfl), (Nat.le_of_ble_eq_true rfl)⟩) (x_rc hK (mAt_0 hM) rfl) hM rfl hl.1 (Nat.le_of_ble_eq_true rfl) dX7_of_2 ⟨Nat.zero_le _, Nat.zero_le _⟩ ?_
  refine x_ifb_ne (tgt := 10) hx hb dX7_of_5 (by decide)  (fun c_5 => ?_) (fun c_5 => ?_)
  · exact absurd c_5 hn
  · refine x_iconst hx hb dX7_of_8 ?_
    exact x_iretR hx hb hr hlocks (by first | rfl | omega) rfl dX7_of_9
set_option maxHeartbeats 4000000 in
set_option maxRecDepth 100000 in
theorem c_X7_of_ok (l : Launch) (D : va_G) (cs : Nat → ClassId) (a : Int → Nat) (σ : Int → Int) (pa : Int → Int) (sl : Int → Int) (sv : Int → Int) (pd : Int → Int) (kn : Int) (ln : Int) (k : Int) (w : Int) (hL : lOK σ) (hk : 0 ≤ k ∧ k < σ 7) (hw : -2147483648 ≤ w ∧ w < 2147483648) (ht : -1 ≤ σ (11 + 13 * k + 0) ∧ σ (11 + 13 * k + 0) < 7) (ha : 0 ≤ σ (11 + 13 * k + 9) ∧ σ (11 + 13 * k + 9) ≤ 5000) (hs : 100 ≤ σ (11 + 13 * k + 2) ∧ σ (11 + 13 * k + 2) ≤ 160) (h3 : 100 ≤ σ 3 ∧ σ 3 ≤ 5000) (hf : 0 ≤ σ (0 + 11 + 13 * k + 5) ∧ σ (0 + 11 + 13 * k + 5) < 1000000000000) : kR D cs l yX7_of wsX7_of ({ frames := 4, cells := 0, slots := 0, locals := 90 } : Room) [.ref (a 0), .int (zI k), .int (zI w)] (fun H => mAt D cs a σ pa sl sv pd kn ln H) (some (.int (zI (ofS σ k w)))) := by
  refine Met.ofW (cc := cX7_of) (maxL := 3) (ret := (some .int)) (by decide) rfl ?_
  intro p e s m args below meth c s₁ B hml hv
  obtain ⟨rfl, hK, hM⟩ := hv
  have hx := B.exec
  have hb := B.bytes
  have hr := B.returns
  have hts := atoms_spec (ws := wsX7_of) B.pre
  have hown : s.vm.findClass RX7 = some m.cls := findClass_of_methodNamed B.named
  have hlocks := B.notSynchronized
  have S : CallFix p m c cX7_of 3 s (([.ref (a 0), .int (zI k), .int (zI w)] : List Value)).toArray wsX7_of RX7 := ⟨hx, hb, hml, hown, hts⟩
  have hin7 : ∀ w ∈ wsX70, w ∈ wsX7_of := by decide +kernel
  have hl := lv_entry ([.ref (a 0), .int (zI k), .int (zI w)]) (n := 3) (Nat.le_of_ble_eq_true rfl)
  rw [lg_entry_eq]
  generalize (lg_sl ([.ref (a 0), .int (zI k), .int (zI w)]) ++ List.replicate (3 - (lg_sl ([.ref (a 0), .int (zI k), .int (zI w)])).length) Slot.unset).toArray = ls at hl ⊢
  have hl : lv_has ls 3 [(0, .ref (a 0)), (1, .int (zI k)), (2, .int (zI w))] := hl
  have h7 := hL.1
  refine lv_aload_n hx hb dX7_of_0 rfl (lv_at hl 0 rfl) ?_
  refine lv_iload_n hx hb dX7_of_1 rfl (lv_at hl 1 rfl) ?_
  refine x_callVR (As := [.int (zI k)]) (rest := []) S hK (c_X7_isMeter l D cs a σ pa sl sv pd kn ln k (by omega) (by omega)) (cwV 1 hts gX7_of_X7_isMeter rfl rfl rfl (by decide +kernel) ⟨(Nat.le_of_ble_eq_true rfl), (Nat.le_of_ble_eq_true rfl)⟩) (x_rc hK (mAt_0 hM) rfl) hM rfl hl.1 (Nat.le_of_ble_eq_true rfl) dX7_of_2 ⟨Nat.zero_le _, Nat.zero_le _⟩ ?_
  refine x_ifb_ne (tgt := 10) hx hb dX7_of_5 (by decide)  (fun c_5 => ?_) (fun c_5 => ?_)
  · refine lv_iload_n hx hb dX7_of_10 rfl (lv_at hl 2 rfl) ?_
    by_cases k_11_0 : w = 0
    · refine x_tabIn (k := 0) (off := 61) (tgt := 72) hx hb dX7_of_11 k_11_0 (by decide) (by decide) (by decide) rfl (by decide) ?_
      subst k_11_0
      refine lv_aload_n hx hb dX7_of_72 rfl (lv_at hl 0 rfl) ?_
      refine lv_iload_n hx hb dX7_of_73 rfl (lv_at hl 1 rfl) ?_
      refine x_iconst hx hb dX7_of_74 ?_
      refine x_callVR (As := [.int (zI k), .int (zI 0)]) (rest := []) S hK (c_X7_its l D cs a σ pa sl sv pd kn ln k 0 (by omega) (by omega)) (cwV 2 hts gX7_of_X7_its rfl rfl rfl (by decide +kernel) ⟨(Nat.le_of_ble_eq_true rfl), (Nat.le_of_ble_eq_true rfl)⟩) (x_rc hK (mAt_0 hM) rfl) hM rfl hl.1 (Nat.le_of_ble_eq_true rfl) dX7_of_75 ⟨Nat.zero_le _, Nat.zero_le _⟩ ?_
      refine x_if_ge (tgt := 86) hx hb dX7_of_78 (by decide) (by omega) (fun c_78 => ?_) (fun c_78 => ?_)
      · refine lv_aload_n hx hb dX7_of_86 rfl (lv_at hl 0 rfl) ?_
        refine lv_iload_n hx hb dX7_of_87 rfl (lv_at hl 1 rfl) ?_
        refine x_iconst hx hb dX7_of_88 ?_
        refine x_callVR (As := [.int (zI k), .int (zI 0)]) (rest := []) S hK (c_X7_its l D cs a σ pa sl sv pd kn ln k 0 (by omega) (by omega)) (cwV 2 hts gX7_of_X7_its rfl rfl rfl (by decide +kernel) ⟨(Nat.le_of_ble_eq_true rfl), (Nat.le_of_ble_eq_true rfl)⟩) (x_rc hK (mAt_0 hM) rfl) hM rfl hl.1 (Nat.le_of_ble_eq_true rfl) dX7_of_89 ⟨Nat.zero_le _, Nat.zero_le _⟩ ?_
        exact x_iretR hx hb hr hlocks (by first | rfl | (unfold ofS; repeat (first | rw [if_pos (by omega)] | rw [if_neg (by omega)]))) rfl dX7_of_92
      · refine x_bipush hx hb dX7_of_81 (by decide +kernel) ?_
        refine lv_goto (tgt := 92) hx hb dX7_of_83 (by decide) ?_
        exact x_iretR hx hb hr hlocks (by first | rfl | (unfold ofS; repeat (first | rw [if_pos (by omega)] | rw [if_neg (by omega)]))) rfl dX7_of_92
    by_cases k_11_1 : w = 1
    · refine x_tabIn (k := 1) (off := 82) (tgt := 93) hx hb dX7_of_11 k_11_1 (by decide) (by decide) (by decide) rfl (by decide) ?_
      subst k_11_1
      refine lv_aload_n hx hb dX7_of_93 rfl (lv_at hl 0 rfl) ?_
      refine lv_iload_n hx hb dX7_of_94 rfl (lv_at hl 1 rfl) ?_
      refine x_callVR (As := [.int (zI k)]) (rest := []) S hK (c_X7_power l D cs a σ pa sl sv pd kn ln k (by omega) (by omega)) (cwV 1 hts gX7_of_X7_power rfl rfl rfl (by decide +kernel) ⟨(Nat.le_of_ble_eq_true rfl), (Nat.le_of_ble_eq_true rfl)⟩) (x_rc hK (mAt_0 hM) rfl) hM rfl hl.1 (Nat.le_of_ble_eq_true rfl) dX7_of_95 ⟨Nat.zero_le _, Nat.zero_le _⟩ ?_
      exact x_iretR hx hb hr hlocks (by first | rfl | (unfold ofS; repeat (first | rw [if_pos (by omega)] | rw [if_neg (by omega)]))) rfl dX7_of_98
    by_cases k_11_2 : w = 2
    · refine x_tabIn (k := 2) (off := 88) (tgt := 99) hx hb dX7_of_11 k_11_2 (by decide) (by decide) (by decide) rfl (by decide) ?_
      subst k_11_2
      refine lv_aload_n hx hb dX7_of_99 rfl (lv_at hl 0 rfl) ?_
      refine lv_iload_n hx hb dX7_of_100 rfl (lv_at hl 1 rfl) ?_
      refine lv_iload_n hx hb dX7_of_101 rfl (lv_at hl 2 rfl) ?_
      refine x_iconst hx hb dX7_of_102 ?_
      refine x_isub hx hb dX7_of_103 ?_
      refine x_callVR (As := [.int (zI k), .int (zI (2 - 1))]) (rest := []) S hK (c_X7_its l D cs a σ pa sl sv pd kn ln k (2 - 1) (by omega) (by omega)) (cwV 2 hts gX7_of_X7_its rfl rfl rfl (by decide +kernel) ⟨(Nat.le_of_ble_eq_true rfl), (Nat.le_of_ble_eq_true rfl)⟩) (x_rc hK (mAt_0 hM) rfl) hM rfl hl.1 (Nat.le_of_ble_eq_true rfl) dX7_of_104 ⟨Nat.zero_le _, Nat.zero_le _⟩ ?_
      exact x_iretR hx hb hr hlocks (by first | rfl | (unfold ofS; repeat (first | rw [if_pos (by omega)] | rw [if_neg (by omega)]))) rfl dX7_of_107
    by_cases k_11_3 : w = 3
    · refine x_tabIn (k := 3) (off := 88) (tgt := 99) hx hb dX7_of_11 k_11_3 (by decide) (by decide) (by decide) rfl (by decide) ?_
      subst k_11_3
      refine lv_aload_n hx hb dX7_of_99 rfl (lv_at hl 0 rfl) ?_
      refine lv_iload_n hx hb dX7_of_100 rfl (lv_at hl 1 rfl) ?_
      refine lv_iload_n hx hb dX7_of_101 rfl (lv_at hl 2 rfl) ?_
      refine x_iconst hx hb dX7_of_102 ?_
      refine x_isub hx hb dX7_of_103 ?_
      refine x_callVR (As := [.int (zI k), .int (zI (3 - 1))]) (rest := []) S hK (c_X7_its l D cs a σ pa sl sv pd kn ln k (3 - 1) (by omega) (by omega)) (cwV 2 hts gX7_of_X7_its rfl rfl rfl (by decide +kernel) ⟨(Nat.le_of_ble_eq_true rfl), (Nat.le_of_ble_eq_true rfl)⟩) (x_rc hK (mAt_0 hM) rfl) hM rfl hl.1 (Nat.le_of_ble_eq_true rfl) dX7_of_104 ⟨Nat.zero_le _, Nat.zero_le _⟩ ?_
      exact x_iretR hx hb hr hlocks (by first | rfl | (unfold ofS; repeat (first | rw [if_pos (by omega)] | rw [if_neg (by omega)]))) rfl dX7_of_107
    by_cases k_11_4 : w = 4
    · refine x_tabIn (k := 4) (off := 88) (tgt := 99) hx hb dX7_of_11 k_11_4 (by decide) (by decide) (by decide) rfl (by decide) ?_
      subst k_11_4
      refine lv_aload_n hx hb dX7_of_99 rfl (lv_at hl 0 rfl) ?_
      refine lv_iload_n hx hb dX7_of_100 rfl (lv_at hl 1 rfl) ?_
      refine lv_iload_n hx hb dX7_of_101 rfl (lv_at hl 2 rfl) ?_
      refine x_iconst hx hb dX7_of_102 ?_
      refine x_isub hx hb dX7_of_103 ?_
      refine x_callVR (As := [.int (zI k), .int (zI (4 - 1))]) (rest := []) S hK (c_X7_its l D cs a σ pa sl sv pd kn ln k (4 - 1) (by omega) (by omega)) (cwV 2 hts gX7_of_X7_its rfl rfl rfl (by decide +kernel) ⟨(Nat.le_of_ble_eq_true rfl), (Nat.le_of_ble_eq_true rfl)⟩) (x_rc hK (mAt_0 hM) rfl) hM rfl hl.1 (Nat.le_of_ble_eq_true rfl) dX7_of_104 ⟨Nat.zero_le _, Nat.zero_le _⟩ ?_
      exact x_iretR hx hb hr hlocks (by first | rfl | (unfold ofS; repeat (first | rw [if_pos (by omega)] | rw [if_neg (by omega)]))) rfl dX7_of_107
    by_cases k_11_5 : w = 5
    · refine x_tabIn (k := 5) (off := 88) (tgt := 99) hx hb dX7_of_11 k_11_5 (by decide) (by decide) (by decide) rfl (by decide) ?_
      subst k_11_5
      refine lv_aload_n hx hb dX7_of_99 rfl (lv_at hl 0 rfl) ?_
      refine lv_iload_n hx hb dX7_of_100 rfl (lv_at hl 1 rfl) ?_
      refine lv_iload_n hx hb dX7_of_101 rfl (lv_at hl 2 rfl) ?_
      refine x_iconst hx hb dX7_of_102 ?_
      refine x_isub hx hb dX7_of_103 ?_
      refine x_callVR (As := [.int (zI k), .int (zI (5 - 1))]) (rest := []) S hK (c_X7_its l D cs a σ pa sl sv pd kn ln k (5 - 1) (by omega) (by omega)) (cwV 2 hts gX7_of_X7_its rfl rfl rfl (by decide +kernel) ⟨(Nat.le_of_ble_eq_true rfl), (Nat.le_of_ble_eq_true rfl)⟩) (x_rc hK (mAt_0 hM) rfl) hM rfl hl.1 (Nat.le_of_ble_eq_true rfl) dX7_of_104 ⟨Nat.zero_le _, Nat.zero_le _⟩ ?_
      exact x_iretR hx hb hr hlocks (by first | rfl | (unfold ofS; repeat (first | rw [if_pos (by omega)] | rw [if_neg (by omega)]))) rfl dX7_of_107
    by_cases k_11_6 : w = 6
    · refine x_tabIn (k := 6) (off := 97) (tgt := 108) hx hb dX7_of_11 k_11_6 (by decide) (by decide) (by decide) rfl (by decide) ?_
      subst k_11_6
      refine lv_aload_n hx hb dX7_of_108 rfl (lv_at hl 0 rfl) ?_
      refine m_g_s S hin7 hK hM (hts (.fieldLink RX7 7 "EnergyDiscsModel" "s" "[J") (by decide +kernel)) dX7_of_109 ?_
      refine x_iconst hx hb dX7_of_112 ?_
      refine lv_iload_n hx hb dX7_of_113 rfl (lv_at hl 1 rfl) ?_
      refine x_callSR (As := [.int (zI 0), .int (zI k)]) (rest := [.ref (a 1)]) S hK (c_X7_at l D cs 0 k ) (va_cwS 2 hts gX7_of_X7_at rfl rfl rfl (by decide +kernel) ⟨(Nat.le_of_ble_eq_true rfl), (Nat.le_of_ble_eq_true rfl)⟩) trivial rfl hl.1 (Nat.le_of_ble_eq_true rfl) dX7_of_114 ⟨Nat.zero_le _, Nat.zero_le _⟩ ?_
      refine x_iconst hx hb dX7_of_117 ?_
      refine x_iadd hx hb dX7_of_118 ?_
      refine m_l_s S hK hM (by omega) dX7_of_119 ?_
      refine x_ldc2 (v := 6000) hx hb hown (hts (.constantLong RX7 68 (zL 6000)) (by decide +kernel)) dX7_of_120 ?_
      refine x_ldiv hx hb (by omega) (by omega) dX7_of_123 ?_
      refine x_l2i hx hb dX7_of_124 ?_
      exact x_iretR hx hb hr hlocks (by first | rfl | (unfold ofS; repeat (first | rw [if_pos (by omega)] | rw [if_neg (by omega)]))) rfl dX7_of_125
    by_cases k_11_7 : w = 7
    · refine x_tabIn (k := 7) (off := 115) (tgt := 126) hx hb dX7_of_11 k_11_7 (by decide) (by decide) (by decide) rfl (by decide) ?_
      subst k_11_7
      refine lv_aload_n hx hb dX7_of_126 rfl (lv_at hl 0 rfl) ?_
      refine lv_iload_n hx hb dX7_of_127 rfl (lv_at hl 1 rfl) ?_
      refine x_bipush hx hb dX7_of_128 (by decide +kernel) ?_
      refine x_callVR (As := [.int (zI k), .int (zI 6)]) (rest := []) S hK (c_X7_its l D cs a σ pa sl sv pd kn ln k 6 (by omega) (by omega)) (cwV 2 hts gX7_of_X7_its rfl rfl rfl (by decide +kernel) ⟨(Nat.le_of_ble_eq_true rfl), (Nat.le_of_ble_eq_true rfl)⟩) (x_rc hK (mAt_0 hM) rfl) hM rfl hl.1 (Nat.le_of_ble_eq_true rfl) dX7_of_130 ⟨Nat.zero_le _, Nat.zero_le _⟩ ?_
      exact x_iretR hx hb hr hlocks (by first | rfl | (unfold ofS; repeat (first | rw [if_pos (by omega)] | rw [if_neg (by omega)]))) rfl dX7_of_133
    by_cases k_11_8 : w = 8
    · refine x_tabIn (k := 8) (off := 123) (tgt := 134) hx hb dX7_of_11 k_11_8 (by decide) (by decide) (by decide) rfl (by decide) ?_
      subst k_11_8
      refine lv_aload_n hx hb dX7_of_134 rfl (lv_at hl 0 rfl) ?_
      refine lv_iload_n hx hb dX7_of_135 rfl (lv_at hl 1 rfl) ?_
      refine x_bipush hx hb dX7_of_136 (by decide +kernel) ?_
      refine x_callVR (As := [.int (zI k), .int (zI 7)]) (rest := []) S hK (c_X7_its l D cs a σ pa sl sv pd kn ln k 7 (by omega) (by omega)) (cwV 2 hts gX7_of_X7_its rfl rfl rfl (by decide +kernel) ⟨(Nat.le_of_ble_eq_true rfl), (Nat.le_of_ble_eq_true rfl)⟩) (x_rc hK (mAt_0 hM) rfl) hM rfl hl.1 (Nat.le_of_ble_eq_true rfl) dX7_of_138 ⟨Nat.zero_le _, Nat.zero_le _⟩ ?_
      exact x_iretR hx hb hr hlocks (by first | rfl | (unfold ofS; repeat (first | rw [if_pos (by omega)] | rw [if_neg (by omega)]))) rfl dX7_of_141
    by_cases k_11_9 : w = 9
    · refine x_tabIn (k := 9) (off := 131) (tgt := 142) hx hb dX7_of_11 k_11_9 (by decide) (by decide) (by decide) rfl (by decide) ?_
      subst k_11_9
      refine lv_aload_n hx hb dX7_of_142 rfl (lv_at hl 0 rfl) ?_
      refine lv_iload_n hx hb dX7_of_143 rfl (lv_at hl 1 rfl) ?_
      refine x_bipush hx hb dX7_of_144 (by decide +kernel) ?_
      refine x_callVR (As := [.int (zI k), .int (zI 8)]) (rest := []) S hK (c_X7_its l D cs a σ pa sl sv pd kn ln k 8 (by omega) (by omega)) (cwV 2 hts gX7_of_X7_its rfl rfl rfl (by decide +kernel) ⟨(Nat.le_of_ble_eq_true rfl), (Nat.le_of_ble_eq_true rfl)⟩) (x_rc hK (mAt_0 hM) rfl) hM rfl hl.1 (Nat.le_of_ble_eq_true rfl) dX7_of_146 ⟨Nat.zero_le _, Nat.zero_le _⟩ ?_
      exact x_iretR hx hb hr hlocks (by first | rfl | (unfold ofS; repeat (first | rw [if_pos (by omega)] | rw [if_neg (by omega)]))) rfl dX7_of_149
    by_cases k_11_10 : w = 10
    · refine x_tabIn (k := 10) (off := 139) (tgt := 150) hx hb dX7_of_11 k_11_10 (by decide) (by decide) (by decide) rfl (by decide) ?_
      subst k_11_10
      refine lv_aload_n hx hb dX7_of_150 rfl (lv_at hl 0 rfl) ?_
      refine lv_iload_n hx hb dX7_of_151 rfl (lv_at hl 1 rfl) ?_
      refine x_callVR (As := [.int (zI k)]) (rest := []) S hK (c_X7_untilWeaker l D cs a σ pa sl sv pd kn ln k (by omega) (by omega) (by omega) (by omega)) (cwV 1 hts gX7_of_X7_untilWeaker rfl rfl rfl (by decide +kernel) ⟨(Nat.le_of_ble_eq_true rfl), (Nat.le_of_ble_eq_true rfl)⟩) (x_rc hK (mAt_0 hM) rfl) hM rfl hl.1 (Nat.le_of_ble_eq_true rfl) dX7_of_152 ⟨Nat.zero_le _, Nat.zero_le _⟩ ?_
      exact x_iretR hx hb hr hlocks (by first | rfl | (unfold ofS; repeat (first | rw [if_pos (by omega)] | rw [if_neg (by omega)]))) rfl dX7_of_155
    by_cases k_11_11 : w = 11
    · refine x_tabIn (k := 11) (off := 145) (tgt := 156) hx hb dX7_of_11 k_11_11 (by decide) (by decide) (by decide) rfl (by decide) ?_
      subst k_11_11
      refine lv_aload_n hx hb dX7_of_156 rfl (lv_at hl 0 rfl) ?_
      refine lv_iload_n hx hb dX7_of_157 rfl (lv_at hl 1 rfl) ?_
      refine x_bipush hx hb dX7_of_158 (by decide +kernel) ?_
      refine x_callVR (As := [.int (zI k), .int (zI 10)]) (rest := []) S hK (c_X7_its l D cs a σ pa sl sv pd kn ln k 10 (by omega) (by omega)) (cwV 2 hts gX7_of_X7_its rfl rfl rfl (by decide +kernel) ⟨(Nat.le_of_ble_eq_true rfl), (Nat.le_of_ble_eq_true rfl)⟩) (x_rc hK (mAt_0 hM) rfl) hM rfl hl.1 (Nat.le_of_ble_eq_true rfl) dX7_of_160 ⟨Nat.zero_le _, Nat.zero_le _⟩ ?_
      exact x_iretR hx hb hr hlocks (by first | rfl | (unfold ofS; repeat (first | rw [if_pos (by omega)] | rw [if_neg (by omega)]))) rfl dX7_of_163
    refine x_tabOut (tgt := 164) hx hb dX7_of_11 (by omega) (by omega) (by decide) ?_
    refine x_bipush hx hb dX7_of_164 (by decide +kernel) ?_
    exact x_iretR hx hb hr hlocks (by first | rfl | (unfold ofS; repeat (first | rw [if_pos (by omega)] | rw [if_neg (by omega)]))) rfl dX7_of_166
  · exact absurd hk c_5
set_option maxHeartbeats 4000000 in
set_option maxRecDepth 100000 in
theorem c_X7_ofLoad_bad (l : Launch) (D : va_G) (cs : Nat → ClassId) (a : Int → Nat) (σ : Int → Int) (pa : Int → Int) (sl : Int → Int) (sv : Int → Int) (pd : Int → Int) (kn : Int) (ln : Int) (k : Int) (w : Int) (h8 : 0 ≤ σ 8 ∧ σ 8 ≤ 12) (hk : -2147483648 ≤ k ∧ k < 2147483648) (hn : ¬ (0 ≤ k ∧ k < σ 8)) : kR D cs l yX7_ofLoad wsX7_ofLoad ({ frames := 2, cells := 0, slots := 0, locals := 43 } : Room) [.ref (a 0), .int (zI k), .int (zI w)] (fun H => mAt D cs a σ pa sl sv pd kn ln H) (some (.int (zI (-1)))) := by
  refine Met.ofW (cc := cX7_ofLoad) (maxL := 3) (ret := (some .int)) (by decide) rfl ?_
  intro p e s m args below meth c s₁ B hml hv
  obtain ⟨rfl, hK, hM⟩ := hv
  have hx := B.exec
  have hb := B.bytes
  have hr := B.returns
  have hts := atoms_spec (ws := wsX7_ofLoad) B.pre
  have hown : s.vm.findClass RX7 = some m.cls := findClass_of_methodNamed B.named
  have hlocks := B.notSynchronized
  have S : CallFix p m c cX7_ofLoad 3 s (([.ref (a 0), .int (zI k), .int (zI w)] : List Value)).toArray wsX7_ofLoad RX7 := ⟨hx, hb, hml, hown, hts⟩
  have hl := lv_entry ([.ref (a 0), .int (zI k), .int (zI w)]) (n := 3) (Nat.le_of_ble_eq_true rfl)
  rw [lg_entry_eq]
  generalize (lg_sl ([.ref (a 0), .int (zI k), .int (zI w)]) ++ List.replicate (3 - (lg_sl ([.ref (a 0), .int (zI k), .int (zI w)])).length) Slot.unset).toArray = ls at hl ⊢
  have hl : lv_has ls 3 [(0, .ref (a 0)), (1, .int (zI k)), (2, .int (zI w))] := hl
  refine lv_aload_n hx hb dX7_ofLoad_0 rfl (lv_at hl 0 rfl) ?_
  refine lv_iload_n hx hb dX7_ofLoad_1 rfl (lv_at hl 1 rfl) ?_
  refine x_callVR (As := [.int (zI k)]) (rest := []) S hK (c_X7_isLoad l D cs a σ pa sl sv pd kn ln k (by omega) (by omega)) (cwV 1 hts gX7_ofLoad_X7_isLoad rfl rfl rfl (by decide +kernel) ⟨(Nat.le_of_ble_eq_true rfl), (Nat.le_of_ble_eq_true rfl)⟩) (x_rc hK (mAt_0 hM) rfl) hM rfl hl.1 (Nat.le_of_ble_eq_true rfl) dX7_ofLoad_2 ⟨Nat.zero_le _, Nat.zero_le _⟩ ?_
  refine x_ifb_ne (tgt := 10) hx hb dX7_ofLoad_5 (by decide)  (fun c_5 => ?_) (fun c_5 => ?_)
  · exact absurd c_5 hn
  · refine x_iconst hx hb dX7_ofLoad_8 ?_
    exact x_iretR hx hb hr hlocks (by first | rfl | omega) rfl dX7_ofLoad_9
set_option maxHeartbeats 4000000 in
set_option maxRecDepth 100000 in
theorem c_X7_ofLoad_ok (l : Launch) (D : va_G) (cs : Nat → ClassId) (a : Int → Nat) (σ : Int → Int) (pa : Int → Int) (sl : Int → Int) (sv : Int → Int) (pd : Int → Int) (kn : Int) (ln : Int) (k : Int) (w : Int) (h8 : 0 ≤ σ 8 ∧ σ 8 ≤ 12) (hk : 0 ≤ k ∧ k < σ 8) (hw : -2147483648 ≤ w ∧ w < 2147483648) : kR D cs l yX7_ofLoad wsX7_ofLoad ({ frames := 2, cells := 0, slots := 0, locals := 43 } : Room) [.ref (a 0), .int (zI k), .int (zI w)] (fun H => mAt D cs a σ pa sl sv pd kn ln H) (some (.int (zI (if 0 ≤ w ∧ w ≤ 2 then σ (102 + 3 * k + w) else -2)))) := by
  refine Met.ofW (cc := cX7_ofLoad) (maxL := 3) (ret := (some .int)) (by decide) rfl ?_
  intro p e s m args below meth c s₁ B hml hv
  obtain ⟨rfl, hK, hM⟩ := hv
  have hx := B.exec
  have hb := B.bytes
  have hr := B.returns
  have hts := atoms_spec (ws := wsX7_ofLoad) B.pre
  have hown : s.vm.findClass RX7 = some m.cls := findClass_of_methodNamed B.named
  have hlocks := B.notSynchronized
  have S : CallFix p m c cX7_ofLoad 3 s (([.ref (a 0), .int (zI k), .int (zI w)] : List Value)).toArray wsX7_ofLoad RX7 := ⟨hx, hb, hml, hown, hts⟩
  have hl := lv_entry ([.ref (a 0), .int (zI k), .int (zI w)]) (n := 3) (Nat.le_of_ble_eq_true rfl)
  rw [lg_entry_eq]
  generalize (lg_sl ([.ref (a 0), .int (zI k), .int (zI w)]) ++ List.replicate (3 - (lg_sl ([.ref (a 0), .int (zI k), .int (zI w)])).length) Slot.unset).toArray = ls at hl ⊢
  have hl : lv_has ls 3 [(0, .ref (a 0)), (1, .int (zI k)), (2, .int (zI w))] := hl
  refine lv_aload_n hx hb dX7_ofLoad_0 rfl (lv_at hl 0 rfl) ?_
  refine lv_iload_n hx hb dX7_ofLoad_1 rfl (lv_at hl 1 rfl) ?_
  refine x_callVR (As := [.int (zI k)]) (rest := []) S hK (c_X7_isLoad l D cs a σ pa sl sv pd kn ln k (by omega) (by omega)) (cwV 1 hts gX7_ofLoad_X7_isLoad rfl rfl rfl (by decide +kernel) ⟨(Nat.le_of_ble_eq_true rfl), (Nat.le_of_ble_eq_true rfl)⟩) (x_rc hK (mAt_0 hM) rfl) hM rfl hl.1 (Nat.le_of_ble_eq_true rfl) dX7_ofLoad_2 ⟨Nat.zero_le _, Nat.zero_le _⟩ ?_
  refine x_ifb_ne (tgt := 10) hx hb dX7_ofLoad_5 (by decide)  (fun c_5 => ?_) (fun c_5 => ?_)
  · refine lv_iload_n hx hb dX7_ofLoad_10 rfl (lv_at hl 2 rfl) ?_
    refine x_iconst hx hb dX7_ofLoad_11 ?_
    refine x_iconst hx hb dX7_ofLoad_12 ?_
    refine x_callSR (As := [.int (zI w), .int (zI 0), .int (zI 2)]) (rest := []) S hK (c_X7_in l D cs w 0 2 (by omega) (by omega) (by omega)) (va_cwS 3 hts gX7_ofLoad_X7_in rfl rfl rfl (by decide +kernel) ⟨(Nat.le_of_ble_eq_true rfl), (Nat.le_of_ble_eq_true rfl)⟩) trivial rfl hl.1 (Nat.le_of_ble_eq_true rfl) dX7_ofLoad_13 ⟨Nat.zero_le _, Nat.zero_le _⟩ ?_
    refine x_ifb_eq (tgt := 34) hx hb dX7_ofLoad_16 (by decide)  (fun c_16 => ?_) (fun c_16 => ?_)
    · refine x_bipush hx hb dX7_ofLoad_34 (by decide +kernel) ?_
      exact x_iretR hx hb hr hlocks (by first | (rw [if_pos (by omega)]) | (rw [if_neg (by omega)])) rfl dX7_ofLoad_36
    · refine lv_aload_n hx hb dX7_ofLoad_19 rfl (lv_at hl 0 rfl) ?_
      refine x_bipush hx hb dX7_ofLoad_20 (by decide +kernel) ?_
      refine x_iconst hx hb dX7_ofLoad_22 ?_
      refine lv_iload_n hx hb dX7_ofLoad_23 rfl (lv_at hl 1 rfl) ?_
      refine x_imul hx hb dX7_ofLoad_24 ?_
      refine x_iadd hx hb dX7_ofLoad_25 ?_
      refine lv_iload_n hx hb dX7_ofLoad_26 rfl (lv_at hl 2 rfl) ?_
      refine x_iadd hx hb dX7_ofLoad_27 ?_
      refine x_callVR (As := [.int (zI ((102 + (3 * k)) + w))]) (rest := []) S hK (c_X7_num l D cs a σ pa sl sv pd kn ln ((102 + (3 * k)) + w) (by omega)) (cwV 1 hts gX7_ofLoad_X7_num rfl rfl rfl (by decide +kernel) ⟨(Nat.le_of_ble_eq_true rfl), (Nat.le_of_ble_eq_true rfl)⟩) (x_rc hK (mAt_0 hM) rfl) hM rfl hl.1 (Nat.le_of_ble_eq_true rfl) dX7_ofLoad_28 ⟨Nat.zero_le _, Nat.zero_le _⟩ ?_
      refine lv_goto (tgt := 36) hx hb dX7_ofLoad_31 (by decide) ?_
      exact x_iretR hx hb hr hlocks (by first | (rw [if_pos (by omega)]) | (rw [if_neg (by omega)])) rfl dX7_ofLoad_36
  · exact absurd hk c_5
set_option maxHeartbeats 4000000 in
set_option maxRecDepth 100000 in
theorem c_X7_turnsOf (l : Launch) (D : va_G) (cs : Nat → ClassId) (a : Int → Nat) (σ : Int → Int) (pa : Int → Int) (sl : Int → Int) (sv : Int → Int) (pd : Int → Int) (kn : Int) (ln : Int) (k : Int) (hk : 0 ≤ k ∧ k < 7) : kR D cs l yX7_turnsOf wsX7_turnsOf ({ frames := 2, cells := 0, slots := 0, locals := 43 } : Room) [.ref (a 0), .int (zI k)] (fun H => mAt D cs a σ pa sl sv pd kn ln H) (some (.int (zI (trn σ k)))) := by
  refine Met.ofW (cc := cX7_turnsOf) (maxL := 2) (ret := (some .int)) (by decide) rfl ?_
  intro p e s m args below meth c s₁ B hml hv
  obtain ⟨rfl, hK, hM⟩ := hv
  have hx := B.exec
  have hb := B.bytes
  have hr := B.returns
  have hts := atoms_spec (ws := wsX7_turnsOf) B.pre
  have hown : s.vm.findClass RX7 = some m.cls := findClass_of_methodNamed B.named
  have hlocks := B.notSynchronized
  have S : CallFix p m c cX7_turnsOf 2 s (([.ref (a 0), .int (zI k)] : List Value)).toArray wsX7_turnsOf RX7 := ⟨hx, hb, hml, hown, hts⟩
  have hl := lv_entry ([.ref (a 0), .int (zI k)]) (n := 2) (Nat.le_of_ble_eq_true rfl)
  rw [lg_entry_eq]
  generalize (lg_sl ([.ref (a 0), .int (zI k)]) ++ List.replicate (2 - (lg_sl ([.ref (a 0), .int (zI k)])).length) Slot.unset).toArray = ls at hl ⊢
  have hl : lv_has ls 2 [(0, .ref (a 0)), (1, .int (zI k))] := hl
  refine lv_aload_n hx hb dX7_turnsOf_0 rfl (lv_at hl 0 rfl) ?_
  refine lv_iload_n hx hb dX7_turnsOf_1 rfl (lv_at hl 1 rfl) ?_
  refine x_iconst hx hb dX7_turnsOf_2 ?_
  refine x_callVR (As := [.int (zI k), .int (zI 3)]) (rest := []) S hK (c_X7_its l D cs a σ pa sl sv pd kn ln k 3 (by omega) (by omega)) (cwV 2 hts gX7_turnsOf_X7_its rfl rfl rfl (by decide +kernel) ⟨(Nat.le_of_ble_eq_true rfl), (Nat.le_of_ble_eq_true rfl)⟩) (x_rc hK (mAt_0 hM) rfl) hM rfl hl.1 (Nat.le_of_ble_eq_true rfl) dX7_turnsOf_3 ⟨Nat.zero_le _, Nat.zero_le _⟩ ?_
  refine lv_aload_n hx hb dX7_turnsOf_6 rfl (lv_at hl 0 rfl) ?_
  refine lv_iload_n hx hb dX7_turnsOf_7 rfl (lv_at hl 1 rfl) ?_
  refine x_iconst hx hb dX7_turnsOf_8 ?_
  refine x_callVR (As := [.int (zI k), .int (zI 4)]) (rest := [.int (zI (σ (11 + 13 * k + 3)))]) S hK (c_X7_its l D cs a σ pa sl sv pd kn ln k 4 (by omega) (by omega)) (cwV 2 hts gX7_turnsOf_X7_its rfl rfl rfl (by decide +kernel) ⟨(Nat.le_of_ble_eq_true rfl), (Nat.le_of_ble_eq_true rfl)⟩) (x_rc hK (mAt_0 hM) rfl) hM rfl hl.1 (Nat.le_of_ble_eq_true rfl) dX7_turnsOf_9 ⟨Nat.zero_le _, Nat.zero_le _⟩ ?_
  refine x_iadd hx hb dX7_turnsOf_12 ?_
  exact x_iretR hx hb hr hlocks (by first | rfl | omega) rfl dX7_turnsOf_13
set_option maxHeartbeats 4000000 in
set_option maxRecDepth 100000 in
theorem c_X7_misses_bad (l : Launch) (D : va_G) (cs : Nat → ClassId) (a : Int → Nat) (σ : Int → Int) (pa : Int → Int) (sl : Int → Int) (sv : Int → Int) (pd : Int → Int) (kn : Int) (ln : Int) (k : Int) (h7 : 0 ≤ σ 7 ∧ σ 7 ≤ 7) (hk : -2147483648 ≤ k ∧ k < 2147483648) (hn : ¬ (0 ≤ k ∧ k < σ 7)) : kR D cs l yX7_misses wsX7_misses ({ frames := 3, cells := 0, slots := 0, locals := 64 } : Room) [.ref (a 0), .int (zI k)] (fun H => mAt D cs a σ pa sl sv pd kn ln H) (some (.long (zL (-1)))) := by
  refine Met.ofW (cc := cX7_misses) (maxL := 2) (ret := (some .long)) (by decide) rfl ?_
  intro p e s m args below meth c s₁ B hml hv
  obtain ⟨rfl, hK, hM⟩ := hv
  have hx := B.exec
  have hb := B.bytes
  have hr := B.returns
  have hts := atoms_spec (ws := wsX7_misses) B.pre
  have hown : s.vm.findClass RX7 = some m.cls := findClass_of_methodNamed B.named
  have hlocks := B.notSynchronized
  have S : CallFix p m c cX7_misses 2 s (([.ref (a 0), .int (zI k)] : List Value)).toArray wsX7_misses RX7 := ⟨hx, hb, hml, hown, hts⟩
  have hin7 : ∀ w ∈ wsX70, w ∈ wsX7_misses := by decide +kernel
  have hl := lv_entry ([.ref (a 0), .int (zI k)]) (n := 2) (Nat.le_of_ble_eq_true rfl)
  rw [lg_entry_eq]
  generalize (lg_sl ([.ref (a 0), .int (zI k)]) ++ List.replicate (2 - (lg_sl ([.ref (a 0), .int (zI k)])).length) Slot.unset).toArray = ls at hl ⊢
  have hl : lv_has ls 2 [(0, .ref (a 0)), (1, .int (zI k))] := hl
  refine lv_aload_n hx hb dX7_misses_0 rfl (lv_at hl 0 rfl) ?_
  refine lv_iload_n hx hb dX7_misses_1 rfl (lv_at hl 1 rfl) ?_
  refine x_callVR (As := [.int (zI k)]) (rest := []) S hK (c_X7_isMeter l D cs a σ pa sl sv pd kn ln k (by omega) (by omega)) (cwV 1 hts gX7_misses_X7_isMeter rfl rfl rfl (by decide +kernel) ⟨(Nat.le_of_ble_eq_true rfl), (Nat.le_of_ble_eq_true rfl)⟩) (x_rc hK (mAt_0 hM) rfl) hM rfl hl.1 (Nat.le_of_ble_eq_true rfl) dX7_misses_2 ⟨Nat.zero_le _, Nat.zero_le _⟩ ?_
  refine x_ifb_ne (tgt := 12) hx hb dX7_misses_5 (by decide)  (fun c_5 => ?_) (fun c_5 => ?_)
  · exact absurd c_5 hn
  · refine x_ldc2 (v := -1) hx hb hown (hts (.constantLong RX7 99 (zL (-1))) (by decide +kernel)) dX7_misses_8 ?_
    exact x_lretR hx hb hr hlocks (by first | rfl | omega) rfl dX7_misses_11
set_option maxHeartbeats 4000000 in
set_option maxRecDepth 100000 in
theorem c_X7_misses_ok (l : Launch) (D : va_G) (cs : Nat → ClassId) (a : Int → Nat) (σ : Int → Int) (pa : Int → Int) (sl : Int → Int) (sv : Int → Int) (pd : Int → Int) (kn : Int) (ln : Int) (k : Int) (h7 : 0 ≤ σ 7 ∧ σ 7 ≤ 7) (hk : 0 ≤ k ∧ k < σ 7) (hm : mOK σ k) : kR D cs l yX7_misses wsX7_misses ({ frames := 3, cells := 0, slots := 0, locals := 64 } : Room) [.ref (a 0), .int (zI k)] (fun H => mAt D cs a σ pa sl sv pd kn ln H) (some (.long (zL (msS σ k)))) := by
  refine Met.ofW (cc := cX7_misses) (maxL := 2) (ret := (some .long)) (by decide) rfl ?_
  intro p e s m args below meth c s₁ B hml hv
  obtain ⟨rfl, hK, hM⟩ := hv
  have hx := B.exec
  have hb := B.bytes
  have hr := B.returns
  have hts := atoms_spec (ws := wsX7_misses) B.pre
  have hown : s.vm.findClass RX7 = some m.cls := findClass_of_methodNamed B.named
  have hlocks := B.notSynchronized
  have S : CallFix p m c cX7_misses 2 s (([.ref (a 0), .int (zI k)] : List Value)).toArray wsX7_misses RX7 := ⟨hx, hb, hml, hown, hts⟩
  have hin7 : ∀ w ∈ wsX70, w ∈ wsX7_misses := by decide +kernel
  have hl := lv_entry ([.ref (a 0), .int (zI k)]) (n := 2) (Nat.le_of_ble_eq_true rfl)
  rw [lg_entry_eq]
  generalize (lg_sl ([.ref (a 0), .int (zI k)]) ++ List.replicate (2 - (lg_sl ([.ref (a 0), .int (zI k)])).length) Slot.unset).toArray = ls at hl ⊢
  have hl : lv_has ls 2 [(0, .ref (a 0)), (1, .int (zI k))] := hl
  obtain ⟨m1, m2, m3⟩ := hm
  refine lv_aload_n hx hb dX7_misses_0 rfl (lv_at hl 0 rfl) ?_
  refine lv_iload_n hx hb dX7_misses_1 rfl (lv_at hl 1 rfl) ?_
  refine x_callVR (As := [.int (zI k)]) (rest := []) S hK (c_X7_isMeter l D cs a σ pa sl sv pd kn ln k (by omega) (by omega)) (cwV 1 hts gX7_misses_X7_isMeter rfl rfl rfl (by decide +kernel) ⟨(Nat.le_of_ble_eq_true rfl), (Nat.le_of_ble_eq_true rfl)⟩) (x_rc hK (mAt_0 hM) rfl) hM rfl hl.1 (Nat.le_of_ble_eq_true rfl) dX7_misses_2 ⟨Nat.zero_le _, Nat.zero_le _⟩ ?_
  refine x_ifb_ne (tgt := 12) hx hb dX7_misses_5 (by decide)  (fun c_5 => ?_) (fun c_5 => ?_)
  · refine lv_aload_n hx hb dX7_misses_12 rfl (lv_at hl 0 rfl) ?_
    refine m_g_s S hin7 hK hM (hts (.fieldLink RX7 7 "EnergyDiscsModel" "s" "[J") (by decide +kernel)) dX7_misses_13 ?_
    refine x_iconst hx hb dX7_misses_16 ?_
    refine lv_iload_n hx hb dX7_misses_17 rfl (lv_at hl 1 rfl) ?_
    refine x_callSR (As := [.int (zI 0), .int (zI k)]) (rest := [.ref (a 1)]) S hK (c_X7_at l D cs 0 k ) (va_cwS 2 hts gX7_misses_X7_at rfl rfl rfl (by decide +kernel) ⟨(Nat.le_of_ble_eq_true rfl), (Nat.le_of_ble_eq_true rfl)⟩) trivial rfl hl.1 (Nat.le_of_ble_eq_true rfl) dX7_misses_18 ⟨Nat.zero_le _, Nat.zero_le _⟩ ?_
    refine x_iconst hx hb dX7_misses_21 ?_
    refine x_iadd hx hb dX7_misses_22 ?_
    refine m_l_s S hK hM (by omega) dX7_misses_23 ?_
    refine x_ldc2 (v := 6000) hx hb hown (hts (.constantLong RX7 68 (zL 6000)) (by decide +kernel)) dX7_misses_24 ?_
    refine lv_aload_n hx hb dX7_misses_27 rfl (lv_at hl 0 rfl) ?_
    refine lv_iload_n hx hb dX7_misses_28 rfl (lv_at hl 1 rfl) ?_
    refine x_callVR (As := [.int (zI k)]) (rest := [.long (zL 6000), .long (zL (σ ((0 + 11 + 13 * k) + 5)))]) S hK (c_X7_turnsOf l D cs a σ pa sl sv pd kn ln k (by omega)) (cwV 1 hts gX7_misses_X7_turnsOf rfl rfl rfl (by decide +kernel) ⟨(Nat.le_of_ble_eq_true rfl), (Nat.le_of_ble_eq_true rfl)⟩) (x_rc hK (mAt_0 hM) rfl) hM rfl hl.1 (Nat.le_of_ble_eq_true rfl) dX7_misses_29 ⟨Nat.zero_le _, Nat.zero_le _⟩ ?_
    refine x_i2l hx hb (by omega) dX7_misses_32 ?_
    refine x_lmul hx hb dX7_misses_33 ?_
    refine x_lsub hx hb dX7_misses_34 ?_
    refine lv_aload_n hx hb dX7_misses_35 rfl (lv_at hl 0 rfl) ?_
    refine lv_iload_n hx hb dX7_misses_36 rfl (lv_at hl 1 rfl) ?_
    refine x_iconst hx hb dX7_misses_37 ?_
    refine x_callVR (As := [.int (zI k), .int (zI 1)]) (rest := [.long (zL ((σ ((0 + 11 + 13 * k) + 5)) - (6000 * (trn σ k))))]) S hK (c_X7_its l D cs a σ pa sl sv pd kn ln k 1 (by omega) (by omega)) (cwV 2 hts gX7_misses_X7_its rfl rfl rfl (by decide +kernel) ⟨(Nat.le_of_ble_eq_true rfl), (Nat.le_of_ble_eq_true rfl)⟩) (x_rc hK (mAt_0 hM) rfl) hM rfl hl.1 (Nat.le_of_ble_eq_true rfl) dX7_misses_38 ⟨Nat.zero_le _, Nat.zero_le _⟩ ?_
    refine x_i2l hx hb (by omega) dX7_misses_41 ?_
    refine x_lsub hx hb dX7_misses_42 ?_
    refine x_ldc2 (v := 10000000000) hx hb hown (hts (.constantLong RX7 151 (zL 10000000000)) (by decide +kernel)) dX7_misses_43 ?_
    refine x_ladd hx hb dX7_misses_46 ?_
    exact x_lretR hx hb hr hlocks (by first | rfl | omega) rfl dX7_misses_47
  · exact absurd hk c_5
set_option maxHeartbeats 4000000 in
set_option maxRecDepth 100000 in
theorem c_X7_fed_bad (l : Launch) (D : va_G) (cs : Nat → ClassId) (a : Int → Nat) (σ : Int → Int) (pa : Int → Int) (sl : Int → Int) (sv : Int → Int) (pd : Int → Int) (kn : Int) (ln : Int) (o : Int) (hL : lOK σ) (ho : -2147483648 ≤ o ∧ o < 2147483648) (hn : ¬ (0 ≤ o ∧ o < σ 7)) : kR D cs l yX7_fed wsX7_fed ({ frames := 3, cells := 0, slots := 0, locals := 66 } : Room) [.ref (a 0), .int (zI o)] (fun H => mAt D cs a σ pa sl sv pd kn ln H) (some (.int (zI (-1)))) := by
  refine Met.ofW (cc := cX7_fed) (maxL := 4) (ret := (some .int)) (by decide) rfl ?_
  intro p e s m args below meth c s₁ B hml hv
  obtain ⟨rfl, hK, hM⟩ := hv
  have hx := B.exec
  have hb := B.bytes
  have hr := B.returns
  have hts := atoms_spec (ws := wsX7_fed) B.pre
  have hown : s.vm.findClass RX7 = some m.cls := findClass_of_methodNamed B.named
  have hlocks := B.notSynchronized
  have S : CallFix p m c cX7_fed 4 s (([.ref (a 0), .int (zI o)] : List Value)).toArray wsX7_fed RX7 := ⟨hx, hb, hml, hown, hts⟩
  have hl := lv_entry ([.ref (a 0), .int (zI o)]) (n := 4) (Nat.le_of_ble_eq_true rfl)
  rw [lg_entry_eq]
  generalize (lg_sl ([.ref (a 0), .int (zI o)]) ++ List.replicate (4 - (lg_sl ([.ref (a 0), .int (zI o)])).length) Slot.unset).toArray = ls at hl ⊢
  have hl : lv_has ls 4 [(0, .ref (a 0)), (1, .int (zI o))] := hl
  have h7 := hL.1
  refine lv_aload_n hx hb dX7_fed_0 rfl (lv_at hl 0 rfl) ?_
  refine lv_iload_n hx hb dX7_fed_1 rfl (lv_at hl 1 rfl) ?_
  refine x_callVR (As := [.int (zI o)]) (rest := []) S hK (c_X7_isMeter l D cs a σ pa sl sv pd kn ln o (by omega) (by omega)) (cwV 1 hts gX7_fed_X7_isMeter rfl rfl rfl (by decide +kernel) ⟨(Nat.le_of_ble_eq_true rfl), (Nat.le_of_ble_eq_true rfl)⟩) (x_rc hK (mAt_0 hM) rfl) hM rfl hl.1 (Nat.le_of_ble_eq_true rfl) dX7_fed_2 ⟨Nat.zero_le _, Nat.zero_le _⟩ ?_
  refine x_ifb_eq (tgt := 12) hx hb dX7_fed_5 (by decide)  (fun c_5 => ?_) (fun c_5 => ?_)
  · refine x_iconst hx hb dX7_fed_12 ?_
    refine lv_istore_n (lv' := [(2, .int (zI ((-1)))), (0, .ref (a 0)), (1, .int (zI o))]) hx hb dX7_fed_13 rfl hl (by decide) rfl (fun ls hl => ?_)
    refine x_iconst hx hb dX7_fed_14 ?_
    refine lv_istore_n (lv' := [(3, .int (zI 0)), (2, .int (zI ((-1)))), (0, .ref (a 0)), (1, .int (zI o))]) hx hb dX7_fed_15 rfl hl (by decide) rfl (fun ls hl => ?_)
    refine lv_iload_n hx hb dX7_fed_16 rfl (lv_at hl 0 rfl) ?_
    refine lv_aload_n hx hb dX7_fed_17 rfl (lv_at hl 2 rfl) ?_
    refine x_bipush hx hb dX7_fed_18 (by decide +kernel) ?_
    refine x_callVR (As := [.int (zI 7)]) (rest := [.int (zI 0)]) S hK (c_X7_num l D cs a σ pa sl sv pd kn ln 7 (by omega)) (cwV 1 hts gX7_fed_X7_num rfl rfl rfl (by decide +kernel) ⟨(Nat.le_of_ble_eq_true rfl), (Nat.le_of_ble_eq_true rfl)⟩) (x_rc hK (mAt_0 hM) rfl) hM rfl hl.1 (Nat.le_of_ble_eq_true rfl) dX7_fed_20 ⟨Nat.zero_le _, Nat.zero_le _⟩ ?_
    refine x_icmp_ge (tgt := 55) hx hb dX7_fed_23 (by decide) (by omega) (by omega) (fun c_23 => ?_) (fun c_23 => ?_)
    · refine lv_iload_n hx hb dX7_fed_55 rfl (lv_at hl 1 rfl) ?_
      exact x_iretR hx hb hr hlocks (by first | rfl | omega) rfl dX7_fed_56
    · refine lv_iload_n hx hb dX7_fed_26 rfl (lv_at hl 1 rfl) ?_
      refine x_if_lt (tgt := 55) hx hb dX7_fed_27 (by decide) (by decide) (fun _ => ?_) (fun q => absurd q (by decide))
      refine lv_iload_n hx hb dX7_fed_55 rfl (lv_at hl 1 rfl) ?_
      exact x_iretR hx hb hr hlocks (by first | rfl | omega) rfl dX7_fed_56
  · exact absurd c_5 hn
set_option maxHeartbeats 4000000 in
set_option maxRecDepth 100000 in
theorem c_X7_fed_ok (l : Launch) (D : va_G) (cs : Nat → ClassId) (a : Int → Nat) (σ : Int → Int) (pa : Int → Int) (sl : Int → Int) (sv : Int → Int) (pd : Int → Int) (kn : Int) (ln : Int) (o : Int) (hL : lOK σ) (ho : 0 ≤ o ∧ o < σ 7) : kR D cs l yX7_fed wsX7_fed ({ frames := 3, cells := 0, slots := 0, locals := 66 } : Room) [.ref (a 0), .int (zI o)] (fun H => mAt D cs a σ pa sl sv pd kn ln H) (some (.int (zI (fedS σ o (σ 7).toNat)))) := by
  refine Met.ofW (cc := cX7_fed) (maxL := 4) (ret := (some .int)) (by decide) rfl ?_
  intro p e s m args below meth c s₁ B hml hv
  obtain ⟨rfl, hK, hM⟩ := hv
  have hx := B.exec
  have hb := B.bytes
  have hr := B.returns
  have hts := atoms_spec (ws := wsX7_fed) B.pre
  have hown : s.vm.findClass RX7 = some m.cls := findClass_of_methodNamed B.named
  have hlocks := B.notSynchronized
  have S : CallFix p m c cX7_fed 4 s (([.ref (a 0), .int (zI o)] : List Value)).toArray wsX7_fed RX7 := ⟨hx, hb, hml, hown, hts⟩
  have hl := lv_entry ([.ref (a 0), .int (zI o)]) (n := 4) (Nat.le_of_ble_eq_true rfl)
  rw [lg_entry_eq]
  generalize (lg_sl ([.ref (a 0), .int (zI o)]) ++ List.replicate (4 - (lg_sl ([.ref (a 0), .int (zI o)])).length) Slot.unset).toArray = ls at hl ⊢
  have hl : lv_has ls 4 [(0, .ref (a 0)), (1, .int (zI o))] := hl
  have h7 := hL.1
  refine lv_aload_n hx hb dX7_fed_0 rfl (lv_at hl 0 rfl) ?_
  refine lv_iload_n hx hb dX7_fed_1 rfl (lv_at hl 1 rfl) ?_
  refine x_callVR (As := [.int (zI o)]) (rest := []) S hK (c_X7_isMeter l D cs a σ pa sl sv pd kn ln o (by omega) (by omega)) (cwV 1 hts gX7_fed_X7_isMeter rfl rfl rfl (by decide +kernel) ⟨(Nat.le_of_ble_eq_true rfl), (Nat.le_of_ble_eq_true rfl)⟩) (x_rc hK (mAt_0 hM) rfl) hM rfl hl.1 (Nat.le_of_ble_eq_true rfl) dX7_fed_2 ⟨Nat.zero_le _, Nat.zero_le _⟩ ?_
  refine x_ifb_eq (tgt := 12) hx hb dX7_fed_5 (by decide)  (fun c_5 => ?_) (fun c_5 => ?_)
  · exact absurd ho c_5
  · refine x_iconst hx hb dX7_fed_8 ?_
    refine lv_goto (tgt := 13) hx hb dX7_fed_9 (by decide) ?_
    refine lv_istore_n (lv' := [(2, .int (zI 0)), (0, .ref (a 0)), (1, .int (zI o))]) hx hb dX7_fed_13 rfl hl (by decide) rfl (fun ls hl => ?_)
    refine x_iconst hx hb dX7_fed_14 ?_
    refine lv_istore_n (lv' := [(3, .int (zI 0)), (2, .int (zI 0)), (0, .ref (a 0)), (1, .int (zI o))]) hx hb dX7_fed_15 rfl hl (by decide) rfl (fun ls hl => ?_)
    have lp16 : ∀ (n : Nat) (j : Int) (acc : Int) (n0 : Nat), (σ 7 - j).toNat < n → (0 ≤ j ∧ j ≤ σ 7) → (j = (n0 : Int)) → (acc = fedS σ o n0) → (0 ≤ acc ∧ acc < 2147483648) → ∀ (ls : Array Slot), lv_has ls 4 [(3, .int (zI j)), (2, .int (zI acc)), (0, .ref (a 0)), (1, .int (zI o))] → W p l e (headSpec wsX7_fed ({ frames := 3, cells := 0, slots := 0, locals := 66 } : Room)).room s m ([.ref (a 0), .int (zI o)] : List Value).toArray below meth c s.heap [] 0 0 (MQ below (kS (some (.int (zI (fedS σ o (σ 7).toNat))))) ([.ref (a 0), .int (zI o)] : List Value).toArray s 0 0 (fun _ => False)) (F0 m 16 ls []) := by
      intro n
      induction n with
      | zero => intro j acc n0 hms; exact absurd hms (Nat.not_lt_zero _)
      | succ n ih =>
        intro j acc n0 hms hj hn ha hr0 ls hl
        have ih16 := ih
        clear ih
        refine lv_iload_n hx hb dX7_fed_16 rfl (lv_at hl 0 rfl) ?_
        refine lv_aload_n hx hb dX7_fed_17 rfl (lv_at hl 2 rfl) ?_
        refine x_bipush hx hb dX7_fed_18 (by decide +kernel) ?_
        refine x_callVR (As := [.int (zI 7)]) (rest := [.int (zI j)]) S hK (c_X7_num l D cs a σ pa sl sv pd kn ln 7 (by omega)) (cwV 1 hts gX7_fed_X7_num rfl rfl rfl (by decide +kernel) ⟨(Nat.le_of_ble_eq_true rfl), (Nat.le_of_ble_eq_true rfl)⟩) (x_rc hK (mAt_0 hM) rfl) hM rfl hl.1 (Nat.le_of_ble_eq_true rfl) dX7_fed_20 ⟨Nat.zero_le _, Nat.zero_le _⟩ ?_
        refine x_icmp_ge (tgt := 55) hx hb dX7_fed_23 (by decide) (by omega) (by omega) (fun c_23 => ?_) (fun c_23 => ?_)
        · refine lv_iload_n hx hb dX7_fed_55 rfl (lv_at hl 1 rfl) ?_
          exact x_iretR hx hb hr hlocks (by rw [ha, show (σ 7).toNat = n0 by omega]) rfl dX7_fed_56
        · refine lv_iload_n hx hb dX7_fed_26 rfl (lv_at hl 1 rfl) ?_
          refine x_if_lt (tgt := 55) hx hb dX7_fed_27 (by decide) (by omega) (fun c_27 => ?_) (fun c_27 => ?_)
          · refine lv_iload_n hx hb dX7_fed_55 rfl (lv_at hl 1 rfl) ?_
            exact x_iretR hx hb hr hlocks (by rw [ha, show (σ 7).toNat = n0 by omega]) rfl dX7_fed_56
          · refine lv_iload_n hx hb dX7_fed_30 rfl (lv_at hl 1 rfl) ?_
            refine lv_aload_n hx hb dX7_fed_31 rfl (lv_at hl 2 rfl) ?_
            refine lv_iload_n hx hb dX7_fed_32 rfl (lv_at hl 0 rfl) ?_
            refine lv_iload_n hx hb dX7_fed_33 rfl (lv_at hl 3 rfl) ?_
            refine x_callVR (As := [.int (zI j), .int (zI o)]) (rest := [.int (zI acc)]) S hK (c_X7_isThrough l D cs a σ pa sl sv pd kn ln j o (by omega) (by omega) (by omega)) (cwV 2 hts gX7_fed_X7_isThrough rfl rfl rfl (by decide +kernel) ⟨(Nat.le_of_ble_eq_true rfl), (Nat.le_of_ble_eq_true rfl)⟩) (x_rc hK (mAt_0 hM) rfl) hM rfl hl.1 (Nat.le_of_ble_eq_true rfl) dX7_fed_34 ⟨Nat.zero_le _, Nat.zero_le _⟩ ?_
            refine x_ifb_eq (tgt := 46) hx hb dX7_fed_37 (by decide)  (fun c_37 => ?_) (fun c_37 => ?_)
            · refine x_iconst hx hb dX7_fed_46 ?_
              have hsh := shI_rng (a := 1) (k := j) (by decide) (by omega)
              refine x_ior hx hb (by omega) (by omega) dX7_fed_47 ?_
              refine lv_istore_n (lv' := [(2, .int (zI (orI acc 0))), (3, .int (zI j)), (0, .ref (a 0)), (1, .int (zI o))]) hx hb dX7_fed_48 rfl hl (by decide) rfl (fun ls hl => ?_)
              refine x_iinc (x := j) (lv' := [(3, .int (zI (j + 1))), (2, .int (zI (orI acc 0))), (0, .ref (a 0)), (1, .int (zI o))]) hx hb dX7_fed_49 hl (k := 1) rfl (by decide) rfl (fun ls hl => ?_)
              refine lv_goto (tgt := 16) hx hb dX7_fed_52 (by decide) ?_
              exact ih16 (j + 1) (orI acc 0) (n0 + 1) (by omega) (by omega) (by omega) (by rw [ha]; (try rw [hn]); show _ = orI (fedS σ o n0) _; rw [hn] at c_37; first | rw [if_pos c_37] | rw [if_neg c_37]) (by refine orI_rng hr0 ?_; first | exact shI_rng (by decide) (by omega) | decide) ls (lv_sub hl [0, 1, 2, 3] rfl)
            · refine x_iconst hx hb dX7_fed_40 ?_
              refine lv_iload_n hx hb dX7_fed_41 rfl (lv_at hl 0 rfl) ?_
              refine x_ishl hx hb (by omega) (by omega) dX7_fed_42 ?_
              refine lv_goto (tgt := 47) hx hb dX7_fed_43 (by decide) ?_
              have hsh := shI_rng (a := 1) (k := j) (by decide) (by omega)
              refine x_ior hx hb (by omega) (by omega) dX7_fed_47 ?_
              refine lv_istore_n (lv' := [(2, .int (zI (orI acc (shI 1 j)))), (3, .int (zI j)), (0, .ref (a 0)), (1, .int (zI o))]) hx hb dX7_fed_48 rfl hl (by decide) rfl (fun ls hl => ?_)
              refine x_iinc (x := j) (lv' := [(3, .int (zI (j + 1))), (2, .int (zI (orI acc (shI 1 j)))), (0, .ref (a 0)), (1, .int (zI o))]) hx hb dX7_fed_49 hl (k := 1) rfl (by decide) rfl (fun ls hl => ?_)
              refine lv_goto (tgt := 16) hx hb dX7_fed_52 (by decide) ?_
              exact ih16 (j + 1) (orI acc (shI 1 j)) (n0 + 1) (by omega) (by omega) (by omega) (by rw [ha]; (try rw [hn]); show _ = orI (fedS σ o n0) _; rw [hn] at c_37; first | rw [if_pos c_37] | rw [if_neg c_37]) (by refine orI_rng hr0 ?_; first | exact shI_rng (by decide) (by omega) | decide) ls (lv_sub hl [0, 1, 2, 3] rfl)
    exact lp16 ((σ 7 - (0 : Int)).toNat + 1) 0 0 0 (Nat.lt_succ_self _) (by omega) (by omega) (by rfl) (by omega) ls (lv_sub hl [0, 1, 2, 3] rfl)
set_option maxHeartbeats 4000000 in
set_option maxRecDepth 100000 in
theorem c_X7_ofAll_4 (l : Launch) (D : va_G) (cs : Nat → ClassId) (a : Int → Nat) (σ : Int → Int) (pa : Int → Int) (sl : Int → Int) (sv : Int → Int) (pd : Int → Int) (kn : Int) (ln : Int) (h8 : 0 ≤ σ 8 ∧ σ 8 ≤ 12) (h7 : 0 ≤ σ 7 ∧ σ 7 ≤ 7) (hl2 : ∀ j : Int, 0 ≤ j → j < σ 8 → σ (102 + 3 * j + 2) = 0 ∨ σ (102 + 3 * j + 2) = 1) : kR D cs l yX7_ofAll wsX7_ofAll ({ frames := 3, cells := 0, slots := 0, locals := 64 } : Room) [.ref (a 0), .int (zI 4)] (fun H => mAt D cs a σ pa sl sv pd kn ln H) (some (.int (zI (onS σ (σ 8).toNat)))) := by
  refine Met.ofW (cc := cX7_ofAll) (maxL := 4) (ret := (some .int)) (by decide) rfl ?_
  intro p e s m args below meth c s₁ B hml hv
  obtain ⟨rfl, hK, hM⟩ := hv
  have hx := B.exec
  have hb := B.bytes
  have hr := B.returns
  have hts := atoms_spec (ws := wsX7_ofAll) B.pre
  have hown : s.vm.findClass RX7 = some m.cls := findClass_of_methodNamed B.named
  have hlocks := B.notSynchronized
  have S : CallFix p m c cX7_ofAll 4 s (([.ref (a 0), .int (zI 4)] : List Value)).toArray wsX7_ofAll RX7 := ⟨hx, hb, hml, hown, hts⟩
  have hin7 : ∀ w ∈ wsX70, w ∈ wsX7_ofAll := by decide +kernel
  have hl := lv_entry ([.ref (a 0), .int (zI 4)]) (n := 4) (Nat.le_of_ble_eq_true rfl)
  rw [lg_entry_eq]
  generalize (lg_sl ([.ref (a 0), .int (zI 4)]) ++ List.replicate (4 - (lg_sl ([.ref (a 0), .int (zI 4)])).length) Slot.unset).toArray = ls at hl ⊢
  have hl : lv_has ls 4 [(0, .ref (a 0)), (1, .int (zI 4))] := hl
  refine x_iconst hx hb dX7_ofAll_0 ?_
  refine lv_istore_n (lv' := [(2, .int (zI 0)), (0, .ref (a 0)), (1, .int (zI 4))]) hx hb dX7_ofAll_1 rfl hl (by decide) rfl (fun ls hl => ?_)
  refine x_iconst hx hb dX7_ofAll_2 ?_
  refine lv_istore_n (lv' := [(3, .int (zI 0)), (2, .int (zI 0)), (0, .ref (a 0)), (1, .int (zI 4))]) hx hb dX7_ofAll_3 rfl hl (by decide) rfl (fun ls hl => ?_)
  have lp4 : ∀ (n : Nat) (j : Int) (acc : Int) (n0 : Nat), (σ 8 - j).toNat < n → (0 ≤ j ∧ j ≤ σ 8) → (j = (n0 : Int)) → (acc = onS σ n0) → (0 ≤ acc ∧ acc < 2147483648) → ∀ (ls : Array Slot), lv_has ls 4 [(3, .int (zI j)), (2, .int (zI acc)), (0, .ref (a 0)), (1, .int (zI 4))] → W p l e (headSpec wsX7_ofAll ({ frames := 3, cells := 0, slots := 0, locals := 64 } : Room)).room s m ([.ref (a 0), .int (zI 4)] : List Value).toArray below meth c s.heap [] 0 0 (MQ below (kS (some (.int (zI (onS σ (σ 8).toNat))))) ([.ref (a 0), .int (zI 4)] : List Value).toArray s 0 0 (fun _ => False)) (F0 m 4 ls []) := by
    intro n
    induction n with
    | zero => intro j acc n0 hms; exact absurd hms (Nat.not_lt_zero _)
    | succ n ih =>
      intro j acc n0 hms hj hn ha hr0 ls hl
      have ih4 := ih
      clear ih
      refine lv_iload_n hx hb dX7_ofAll_4 rfl (lv_at hl 0 rfl) ?_
      refine lv_aload_n hx hb dX7_ofAll_5 rfl (lv_at hl 2 rfl) ?_
      refine x_bipush hx hb dX7_ofAll_6 (by decide +kernel) ?_
      refine x_callVR (As := [.int (zI 8)]) (rest := [.int (zI j)]) S hK (c_X7_num l D cs a σ pa sl sv pd kn ln 8 (by omega)) (cwV 1 hts gX7_ofAll_X7_num rfl rfl rfl (by decide +kernel) ⟨(Nat.le_of_ble_eq_true rfl), (Nat.le_of_ble_eq_true rfl)⟩) (x_rc hK (mAt_0 hM) rfl) hM rfl hl.1 (Nat.le_of_ble_eq_true rfl) dX7_ofAll_8 ⟨Nat.zero_le _, Nat.zero_le _⟩ ?_
      refine x_icmp_ge (tgt := 53) hx hb dX7_ofAll_11 (by decide) (by omega) (by omega) (fun c_11 => ?_) (fun c_11 => ?_)
      · refine x_iconst hx hb dX7_ofAll_53 ?_
        refine lv_istore_n (lv' := [(3, .int (zI 0)), (2, .int (zI acc)), (0, .ref (a 0)), (1, .int (zI 4))]) hx hb dX7_ofAll_54 rfl hl (by decide) rfl (fun ls hl => ?_)
        refine lv_iload_n hx hb dX7_ofAll_55 rfl (lv_at hl 0 rfl) ?_
        refine lv_aload_n hx hb dX7_ofAll_56 rfl (lv_at hl 2 rfl) ?_
        refine x_bipush hx hb dX7_ofAll_57 (by decide +kernel) ?_
        refine x_callVR (As := [.int (zI 7)]) (rest := [.int (zI 0)]) S hK (c_X7_num l D cs a σ pa sl sv pd kn ln 7 (by omega)) (cwV 1 hts gX7_ofAll_X7_num rfl rfl rfl (by decide +kernel) ⟨(Nat.le_of_ble_eq_true rfl), (Nat.le_of_ble_eq_true rfl)⟩) (x_rc hK (mAt_0 hM) rfl) hM rfl hl.1 (Nat.le_of_ble_eq_true rfl) dX7_ofAll_59 ⟨Nat.zero_le _, Nat.zero_le _⟩ ?_
        refine x_icmp_ge (tgt := 103) hx hb dX7_ofAll_62 (by decide) (by omega) (by omega) (fun c_62 => ?_) (fun c_62 => ?_)
        · refine lv_iload_n hx hb dX7_ofAll_103 rfl (lv_at hl 1 rfl) ?_
          exact x_iretR hx hb hr hlocks (by rw [ha, show (σ 8).toNat = n0 by omega]) rfl dX7_ofAll_104
        · refine lv_iload_n hx hb dX7_ofAll_65 rfl (lv_at hl 3 rfl) ?_
          refine x_iconst hx hb dX7_ofAll_66 ?_
          refine x_icmp_le (tgt := 103) hx hb dX7_ofAll_67 (by decide) (by decide) (by decide) (fun _ => ?_) (fun q => absurd q (by decide))
          refine lv_iload_n hx hb dX7_ofAll_103 rfl (lv_at hl 1 rfl) ?_
          exact x_iretR hx hb hr hlocks (by rw [ha, show (σ 8).toNat = n0 by omega]) rfl dX7_ofAll_104
      · refine lv_iload_n hx hb dX7_ofAll_14 rfl (lv_at hl 3 rfl) ?_
        refine x_iconst hx hb dX7_ofAll_15 ?_
        refine x_icmp_ne (tgt := 53) hx hb dX7_ofAll_16 (by decide) (by decide) (by decide) (fun q => absurd q (by decide)) (fun _ => ?_)
        have hl3 := hl2 j (by omega) (by omega)
        refine lv_iload_n hx hb dX7_ofAll_19 rfl (lv_at hl 1 rfl) ?_
        refine lv_aload_n hx hb dX7_ofAll_20 rfl (lv_at hl 2 rfl) ?_
        refine m_g_s S hin7 hK hM (hts (.fieldLink RX7 7 "EnergyDiscsModel" "s" "[J") (by decide +kernel)) dX7_ofAll_21 ?_
        refine x_bipush hx hb dX7_ofAll_24 (by decide +kernel) ?_
        refine x_iconst hx hb dX7_ofAll_26 ?_
        refine lv_iload_n hx hb dX7_ofAll_27 rfl (lv_at hl 0 rfl) ?_
        refine x_imul hx hb dX7_ofAll_28 ?_
        refine x_iadd hx hb dX7_ofAll_29 ?_
        refine x_iconst hx hb dX7_ofAll_30 ?_
        refine x_iadd hx hb dX7_ofAll_31 ?_
        refine m_l_s S hK hM (by omega) dX7_ofAll_32 ?_
        refine x_lconst (v := 1) hx hb dX7_ofAll_33 rfl ?_
        refine x_lcmp_ne (tgt := 44) hx hb dX7_ofAll_34 dX7_ofAll_35 (by decide) (by omega) (by omega) (fun c_34 => ?_) (fun c_34 => ?_)
        · refine x_iconst hx hb dX7_ofAll_44 ?_
          have hsh := shI_rng (a := 1) (k := j) (by decide) (by omega)
          refine x_ior hx hb (by omega) (by omega) dX7_ofAll_45 ?_
          refine lv_istore_n (lv' := [(2, .int (zI (orI acc 0))), (3, .int (zI j)), (0, .ref (a 0)), (1, .int (zI 4))]) hx hb dX7_ofAll_46 rfl hl (by decide) rfl (fun ls hl => ?_)
          refine x_iinc (x := j) (lv' := [(3, .int (zI (j + 1))), (2, .int (zI (orI acc 0))), (0, .ref (a 0)), (1, .int (zI 4))]) hx hb dX7_ofAll_47 hl (k := 1) rfl (by decide) rfl (fun ls hl => ?_)
          refine lv_goto (tgt := 4) hx hb dX7_ofAll_50 (by decide) ?_
          exact ih4 (j + 1) (orI acc 0) (n0 + 1) (by omega) (by omega) (by omega) (by rw [ha]; (try rw [hn]); show _ = orI (onS σ n0) _; rw [hn] at c_34; first | rw [if_pos c_34] | rw [if_neg c_34]) (by refine orI_rng hr0 ?_; first | exact shI_rng (by decide) (by omega) | decide) ls (lv_sub hl [0, 1, 2, 3] rfl)
        · refine x_iconst hx hb dX7_ofAll_38 ?_
          refine lv_iload_n hx hb dX7_ofAll_39 rfl (lv_at hl 0 rfl) ?_
          refine x_ishl hx hb (by omega) (by omega) dX7_ofAll_40 ?_
          refine lv_goto (tgt := 45) hx hb dX7_ofAll_41 (by decide) ?_
          have hsh := shI_rng (a := 1) (k := j) (by decide) (by omega)
          refine x_ior hx hb (by omega) (by omega) dX7_ofAll_45 ?_
          refine lv_istore_n (lv' := [(2, .int (zI (orI acc (shI 1 j)))), (3, .int (zI j)), (0, .ref (a 0)), (1, .int (zI 4))]) hx hb dX7_ofAll_46 rfl hl (by decide) rfl (fun ls hl => ?_)
          refine x_iinc (x := j) (lv' := [(3, .int (zI (j + 1))), (2, .int (zI (orI acc (shI 1 j)))), (0, .ref (a 0)), (1, .int (zI 4))]) hx hb dX7_ofAll_47 hl (k := 1) rfl (by decide) rfl (fun ls hl => ?_)
          refine lv_goto (tgt := 4) hx hb dX7_ofAll_50 (by decide) ?_
          exact ih4 (j + 1) (orI acc (shI 1 j)) (n0 + 1) (by omega) (by omega) (by omega) (by rw [ha]; (try rw [hn]); show _ = orI (onS σ n0) _; rw [hn] at c_34; first | rw [if_pos c_34] | rw [if_neg c_34]) (by refine orI_rng hr0 ?_; first | exact shI_rng (by decide) (by omega) | decide) ls (lv_sub hl [0, 1, 2, 3] rfl)
  exact lp4 ((σ 8 - (0 : Int)).toNat + 1) 0 0 0 (Nat.lt_succ_self _) (by omega) (by omega) (by rfl) (by omega) ls (lv_sub hl [0, 1, 2, 3] rfl)
set_option maxHeartbeats 4000000 in
set_option maxRecDepth 100000 in
theorem c_X7_ofAll_5 (l : Launch) (D : va_G) (cs : Nat → ClassId) (a : Int → Nat) (σ : Int → Int) (pa : Int → Int) (sl : Int → Int) (sv : Int → Int) (pd : Int → Int) (kn : Int) (ln : Int) (h8 : 0 ≤ σ 8 ∧ σ 8 ≤ 12) (h7 : 0 ≤ σ 7 ∧ σ 7 ≤ 7) (hb7 : ∀ k : Int, 0 ≤ k → k < σ 7 → σ (11 + 13 * k + 7) = 0 ∨ σ (11 + 13 * k + 7) = 1) : kR D cs l yX7_ofAll wsX7_ofAll ({ frames := 3, cells := 0, slots := 0, locals := 64 } : Room) [.ref (a 0), .int (zI 5)] (fun H => mAt D cs a σ pa sl sv pd kn ln H) (some (.int (zI (brS σ (σ 7).toNat)))) := by
  refine Met.ofW (cc := cX7_ofAll) (maxL := 4) (ret := (some .int)) (by decide) rfl ?_
  intro p e s m args below meth c s₁ B hml hv
  obtain ⟨rfl, hK, hM⟩ := hv
  have hx := B.exec
  have hb := B.bytes
  have hr := B.returns
  have hts := atoms_spec (ws := wsX7_ofAll) B.pre
  have hown : s.vm.findClass RX7 = some m.cls := findClass_of_methodNamed B.named
  have hlocks := B.notSynchronized
  have S : CallFix p m c cX7_ofAll 4 s (([.ref (a 0), .int (zI 5)] : List Value)).toArray wsX7_ofAll RX7 := ⟨hx, hb, hml, hown, hts⟩
  have hin7 : ∀ w ∈ wsX70, w ∈ wsX7_ofAll := by decide +kernel
  have hl := lv_entry ([.ref (a 0), .int (zI 5)]) (n := 4) (Nat.le_of_ble_eq_true rfl)
  rw [lg_entry_eq]
  generalize (lg_sl ([.ref (a 0), .int (zI 5)]) ++ List.replicate (4 - (lg_sl ([.ref (a 0), .int (zI 5)])).length) Slot.unset).toArray = ls at hl ⊢
  have hl : lv_has ls 4 [(0, .ref (a 0)), (1, .int (zI 5))] := hl
  refine x_iconst hx hb dX7_ofAll_0 ?_
  refine lv_istore_n (lv' := [(2, .int (zI 0)), (0, .ref (a 0)), (1, .int (zI 5))]) hx hb dX7_ofAll_1 rfl hl (by decide) rfl (fun ls hl => ?_)
  refine x_iconst hx hb dX7_ofAll_2 ?_
  refine lv_istore_n (lv' := [(3, .int (zI 0)), (2, .int (zI 0)), (0, .ref (a 0)), (1, .int (zI 5))]) hx hb dX7_ofAll_3 rfl hl (by decide) rfl (fun ls hl => ?_)
  refine lv_iload_n hx hb dX7_ofAll_4 rfl (lv_at hl 0 rfl) ?_
  refine lv_aload_n hx hb dX7_ofAll_5 rfl (lv_at hl 2 rfl) ?_
  refine x_bipush hx hb dX7_ofAll_6 (by decide +kernel) ?_
  refine x_callVR (As := [.int (zI 8)]) (rest := [.int (zI 0)]) S hK (c_X7_num l D cs a σ pa sl sv pd kn ln 8 (by omega)) (cwV 1 hts gX7_ofAll_X7_num rfl rfl rfl (by decide +kernel) ⟨(Nat.le_of_ble_eq_true rfl), (Nat.le_of_ble_eq_true rfl)⟩) (x_rc hK (mAt_0 hM) rfl) hM rfl hl.1 (Nat.le_of_ble_eq_true rfl) dX7_ofAll_8 ⟨Nat.zero_le _, Nat.zero_le _⟩ ?_
  refine x_icmp_ge (tgt := 53) hx hb dX7_ofAll_11 (by decide) (by omega) (by omega) (fun c_11 => ?_) (fun c_11 => ?_)
  · refine x_iconst hx hb dX7_ofAll_53 ?_
    refine lv_istore_n (lv' := [(3, .int (zI 0)), (2, .int (zI 0)), (0, .ref (a 0)), (1, .int (zI 5))]) hx hb dX7_ofAll_54 rfl hl (by decide) rfl (fun ls hl => ?_)
    have lp55 : ∀ (n : Nat) (j : Int) (acc : Int) (n0 : Nat), (σ 7 - j).toNat < n → (0 ≤ j ∧ j ≤ σ 7) → (j = (n0 : Int)) → (acc = brS σ n0) → (0 ≤ acc ∧ acc < 2147483648) → ∀ (ls : Array Slot), lv_has ls 4 [(3, .int (zI j)), (2, .int (zI acc)), (0, .ref (a 0)), (1, .int (zI 5))] → W p l e (headSpec wsX7_ofAll ({ frames := 3, cells := 0, slots := 0, locals := 64 } : Room)).room s m ([.ref (a 0), .int (zI 5)] : List Value).toArray below meth c s.heap [] 0 0 (MQ below (kS (some (.int (zI (brS σ (σ 7).toNat))))) ([.ref (a 0), .int (zI 5)] : List Value).toArray s 0 0 (fun _ => False)) (F0 m 55 ls []) := by
      intro n
      induction n with
      | zero => intro j acc n0 hms; exact absurd hms (Nat.not_lt_zero _)
      | succ n ih =>
        intro j acc n0 hms hj hn ha hr0 ls hl
        have ih55 := ih
        clear ih
        refine lv_iload_n hx hb dX7_ofAll_55 rfl (lv_at hl 0 rfl) ?_
        refine lv_aload_n hx hb dX7_ofAll_56 rfl (lv_at hl 2 rfl) ?_
        refine x_bipush hx hb dX7_ofAll_57 (by decide +kernel) ?_
        refine x_callVR (As := [.int (zI 7)]) (rest := [.int (zI j)]) S hK (c_X7_num l D cs a σ pa sl sv pd kn ln 7 (by omega)) (cwV 1 hts gX7_ofAll_X7_num rfl rfl rfl (by decide +kernel) ⟨(Nat.le_of_ble_eq_true rfl), (Nat.le_of_ble_eq_true rfl)⟩) (x_rc hK (mAt_0 hM) rfl) hM rfl hl.1 (Nat.le_of_ble_eq_true rfl) dX7_ofAll_59 ⟨Nat.zero_le _, Nat.zero_le _⟩ ?_
        refine x_icmp_ge (tgt := 103) hx hb dX7_ofAll_62 (by decide) (by omega) (by omega) (fun c_62 => ?_) (fun c_62 => ?_)
        · refine lv_iload_n hx hb dX7_ofAll_103 rfl (lv_at hl 1 rfl) ?_
          exact x_iretR hx hb hr hlocks (by rw [ha, show (σ 7).toNat = n0 by omega]) rfl dX7_ofAll_104
        · refine lv_iload_n hx hb dX7_ofAll_65 rfl (lv_at hl 3 rfl) ?_
          refine x_iconst hx hb dX7_ofAll_66 ?_
          refine x_icmp_le (tgt := 103) hx hb dX7_ofAll_67 (by decide) (by decide) (by decide) (fun q => absurd q (by decide)) (fun _ => ?_)
          refine lv_iload_n hx hb dX7_ofAll_70 rfl (lv_at hl 3 rfl) ?_
          refine x_iconst hx hb dX7_ofAll_71 ?_
          refine x_icmp_ne (tgt := 89) hx hb dX7_ofAll_72 (by decide) (by decide) (by decide) (fun q => absurd q (by decide)) (fun _ => ?_)
          have hb3 := hb7 j (by omega) (by omega)
          refine lv_iload_n hx hb dX7_ofAll_75 rfl (lv_at hl 1 rfl) ?_
          refine lv_aload_n hx hb dX7_ofAll_76 rfl (lv_at hl 2 rfl) ?_
          refine lv_iload_n hx hb dX7_ofAll_77 rfl (lv_at hl 0 rfl) ?_
          refine x_bipush hx hb dX7_ofAll_78 (by decide +kernel) ?_
          refine x_callVR (As := [.int (zI j), .int (zI 7)]) (rest := [.int (zI acc)]) S hK (c_X7_its l D cs a σ pa sl sv pd kn ln j 7 (by omega) (by omega)) (cwV 2 hts gX7_ofAll_X7_its rfl rfl rfl (by decide +kernel) ⟨(Nat.le_of_ble_eq_true rfl), (Nat.le_of_ble_eq_true rfl)⟩) (x_rc hK (mAt_0 hM) rfl) hM rfl hl.1 (Nat.le_of_ble_eq_true rfl) dX7_ofAll_80 ⟨Nat.zero_le _, Nat.zero_le _⟩ ?_
          refine lv_iload_n hx hb dX7_ofAll_83 rfl (lv_at hl 0 rfl) ?_
          refine x_ishl hx hb (by omega) (by omega) dX7_ofAll_84 ?_
          have hsh := shI_rng (a := σ (11 + 13 * j + 7)) (k := j) (by omega) (by omega)
          refine x_ior hx hb (by omega) (by omega) dX7_ofAll_85 ?_
          refine lv_goto (tgt := 96) hx hb dX7_ofAll_86 (by decide) ?_
          refine lv_istore_n (lv' := [(2, .int (zI (orI acc (shI (σ (11 + 13 * j + 7)) j)))), (3, .int (zI j)), (0, .ref (a 0)), (1, .int (zI 5))]) hx hb dX7_ofAll_96 rfl hl (by decide) rfl (fun ls hl => ?_)
          refine x_iinc (x := j) (lv' := [(3, .int (zI (j + 1))), (2, .int (zI (orI acc (shI (σ (11 + 13 * j + 7)) j)))), (0, .ref (a 0)), (1, .int (zI 5))]) hx hb dX7_ofAll_97 hl (k := 1) rfl (by decide) rfl (fun ls hl => ?_)
          refine lv_goto (tgt := 55) hx hb dX7_ofAll_100 (by decide) ?_
          exact ih55 (j + 1) (orI acc (shI (σ (11 + 13 * j + 7)) j)) (n0 + 1) (by omega) (by omega) (by omega) (by rw [ha, hn]; rfl) (by exact orI_rng hr0 (shI_rng (by omega) (by omega))) ls (lv_sub hl [0, 1, 2, 3] rfl)
    exact lp55 ((σ 7 - (0 : Int)).toNat + 1) 0 0 0 (Nat.lt_succ_self _) (by omega) (by omega) (by rfl) (by omega) ls (lv_sub hl [0, 1, 2, 3] rfl)
  · refine lv_iload_n hx hb dX7_ofAll_14 rfl (lv_at hl 3 rfl) ?_
    refine x_iconst hx hb dX7_ofAll_15 ?_
    refine x_icmp_ne (tgt := 53) hx hb dX7_ofAll_16 (by decide) (by decide) (by decide) (fun _ => ?_) (fun q => absurd q (by decide))
    refine x_iconst hx hb dX7_ofAll_53 ?_
    refine lv_istore_n (lv' := [(3, .int (zI 0)), (2, .int (zI 0)), (0, .ref (a 0)), (1, .int (zI 5))]) hx hb dX7_ofAll_54 rfl hl (by decide) rfl (fun ls hl => ?_)
    have lp55 : ∀ (n : Nat) (j : Int) (acc : Int) (n0 : Nat), (σ 7 - j).toNat < n → (0 ≤ j ∧ j ≤ σ 7) → (j = (n0 : Int)) → (acc = brS σ n0) → (0 ≤ acc ∧ acc < 2147483648) → ∀ (ls : Array Slot), lv_has ls 4 [(3, .int (zI j)), (2, .int (zI acc)), (0, .ref (a 0)), (1, .int (zI 5))] → W p l e (headSpec wsX7_ofAll ({ frames := 3, cells := 0, slots := 0, locals := 64 } : Room)).room s m ([.ref (a 0), .int (zI 5)] : List Value).toArray below meth c s.heap [] 0 0 (MQ below (kS (some (.int (zI (brS σ (σ 7).toNat))))) ([.ref (a 0), .int (zI 5)] : List Value).toArray s 0 0 (fun _ => False)) (F0 m 55 ls []) := by
      intro n
      induction n with
      | zero => intro j acc n0 hms; exact absurd hms (Nat.not_lt_zero _)
      | succ n ih =>
        intro j acc n0 hms hj hn ha hr0 ls hl
        have ih55 := ih
        clear ih
        refine lv_iload_n hx hb dX7_ofAll_55 rfl (lv_at hl 0 rfl) ?_
        refine lv_aload_n hx hb dX7_ofAll_56 rfl (lv_at hl 2 rfl) ?_
        refine x_bipush hx hb dX7_ofAll_57 (by decide +kernel) ?_
        refine x_callVR (As := [.int (zI 7)]) (rest := [.int (zI j)]) S hK (c_X7_num l D cs a σ pa sl sv pd kn ln 7 (by omega)) (cwV 1 hts gX7_ofAll_X7_num rfl rfl rfl (by decide +kernel) ⟨(Nat.le_of_ble_eq_true rfl), (Nat.le_of_ble_eq_true rfl)⟩) (x_rc hK (mAt_0 hM) rfl) hM rfl hl.1 (Nat.le_of_ble_eq_true rfl) dX7_ofAll_59 ⟨Nat.zero_le _, Nat.zero_le _⟩ ?_
        refine x_icmp_ge (tgt := 103) hx hb dX7_ofAll_62 (by decide) (by omega) (by omega) (fun c_62 => ?_) (fun c_62 => ?_)
        · refine lv_iload_n hx hb dX7_ofAll_103 rfl (lv_at hl 1 rfl) ?_
          exact x_iretR hx hb hr hlocks (by rw [ha, show (σ 7).toNat = n0 by omega]) rfl dX7_ofAll_104
        · refine lv_iload_n hx hb dX7_ofAll_65 rfl (lv_at hl 3 rfl) ?_
          refine x_iconst hx hb dX7_ofAll_66 ?_
          refine x_icmp_le (tgt := 103) hx hb dX7_ofAll_67 (by decide) (by decide) (by decide) (fun q => absurd q (by decide)) (fun _ => ?_)
          refine lv_iload_n hx hb dX7_ofAll_70 rfl (lv_at hl 3 rfl) ?_
          refine x_iconst hx hb dX7_ofAll_71 ?_
          refine x_icmp_ne (tgt := 89) hx hb dX7_ofAll_72 (by decide) (by decide) (by decide) (fun q => absurd q (by decide)) (fun _ => ?_)
          have hb3 := hb7 j (by omega) (by omega)
          refine lv_iload_n hx hb dX7_ofAll_75 rfl (lv_at hl 1 rfl) ?_
          refine lv_aload_n hx hb dX7_ofAll_76 rfl (lv_at hl 2 rfl) ?_
          refine lv_iload_n hx hb dX7_ofAll_77 rfl (lv_at hl 0 rfl) ?_
          refine x_bipush hx hb dX7_ofAll_78 (by decide +kernel) ?_
          refine x_callVR (As := [.int (zI j), .int (zI 7)]) (rest := [.int (zI acc)]) S hK (c_X7_its l D cs a σ pa sl sv pd kn ln j 7 (by omega) (by omega)) (cwV 2 hts gX7_ofAll_X7_its rfl rfl rfl (by decide +kernel) ⟨(Nat.le_of_ble_eq_true rfl), (Nat.le_of_ble_eq_true rfl)⟩) (x_rc hK (mAt_0 hM) rfl) hM rfl hl.1 (Nat.le_of_ble_eq_true rfl) dX7_ofAll_80 ⟨Nat.zero_le _, Nat.zero_le _⟩ ?_
          refine lv_iload_n hx hb dX7_ofAll_83 rfl (lv_at hl 0 rfl) ?_
          refine x_ishl hx hb (by omega) (by omega) dX7_ofAll_84 ?_
          have hsh := shI_rng (a := σ (11 + 13 * j + 7)) (k := j) (by omega) (by omega)
          refine x_ior hx hb (by omega) (by omega) dX7_ofAll_85 ?_
          refine lv_goto (tgt := 96) hx hb dX7_ofAll_86 (by decide) ?_
          refine lv_istore_n (lv' := [(2, .int (zI (orI acc (shI (σ (11 + 13 * j + 7)) j)))), (3, .int (zI j)), (0, .ref (a 0)), (1, .int (zI 5))]) hx hb dX7_ofAll_96 rfl hl (by decide) rfl (fun ls hl => ?_)
          refine x_iinc (x := j) (lv' := [(3, .int (zI (j + 1))), (2, .int (zI (orI acc (shI (σ (11 + 13 * j + 7)) j)))), (0, .ref (a 0)), (1, .int (zI 5))]) hx hb dX7_ofAll_97 hl (k := 1) rfl (by decide) rfl (fun ls hl => ?_)
          refine lv_goto (tgt := 55) hx hb dX7_ofAll_100 (by decide) ?_
          exact ih55 (j + 1) (orI acc (shI (σ (11 + 13 * j + 7)) j)) (n0 + 1) (by omega) (by omega) (by omega) (by rw [ha, hn]; rfl) (by exact orI_rng hr0 (shI_rng (by omega) (by omega))) ls (lv_sub hl [0, 1, 2, 3] rfl)
    exact lp55 ((σ 7 - (0 : Int)).toNat + 1) 0 0 0 (Nat.lt_succ_self _) (by omega) (by omega) (by rfl) (by omega) ls (lv_sub hl [0, 1, 2, 3] rfl)
set_option maxHeartbeats 4000000 in
set_option maxRecDepth 100000 in
theorem c_X7_ofAll_6 (l : Launch) (D : va_G) (cs : Nat → ClassId) (a : Int → Nat) (σ : Int → Int) (pa : Int → Int) (sl : Int → Int) (sv : Int → Int) (pd : Int → Int) (kn : Int) (ln : Int) (h8 : 0 ≤ σ 8 ∧ σ 8 ≤ 12) (h7 : 0 ≤ σ 7 ∧ σ 7 ≤ 7) : kR D cs l yX7_ofAll wsX7_ofAll ({ frames := 3, cells := 0, slots := 0, locals := 64 } : Room) [.ref (a 0), .int (zI 6)] (fun H => mAt D cs a σ pa sl sv pd kn ln H) (some (.int (zI (trS σ (σ 7).toNat)))) := by
  refine Met.ofW (cc := cX7_ofAll) (maxL := 4) (ret := (some .int)) (by decide) rfl ?_
  intro p e s m args below meth c s₁ B hml hv
  obtain ⟨rfl, hK, hM⟩ := hv
  have hx := B.exec
  have hb := B.bytes
  have hr := B.returns
  have hts := atoms_spec (ws := wsX7_ofAll) B.pre
  have hown : s.vm.findClass RX7 = some m.cls := findClass_of_methodNamed B.named
  have hlocks := B.notSynchronized
  have S : CallFix p m c cX7_ofAll 4 s (([.ref (a 0), .int (zI 6)] : List Value)).toArray wsX7_ofAll RX7 := ⟨hx, hb, hml, hown, hts⟩
  have hin7 : ∀ w ∈ wsX70, w ∈ wsX7_ofAll := by decide +kernel
  have hl := lv_entry ([.ref (a 0), .int (zI 6)]) (n := 4) (Nat.le_of_ble_eq_true rfl)
  rw [lg_entry_eq]
  generalize (lg_sl ([.ref (a 0), .int (zI 6)]) ++ List.replicate (4 - (lg_sl ([.ref (a 0), .int (zI 6)])).length) Slot.unset).toArray = ls at hl ⊢
  have hl : lv_has ls 4 [(0, .ref (a 0)), (1, .int (zI 6))] := hl
  refine x_iconst hx hb dX7_ofAll_0 ?_
  refine lv_istore_n (lv' := [(2, .int (zI 0)), (0, .ref (a 0)), (1, .int (zI 6))]) hx hb dX7_ofAll_1 rfl hl (by decide) rfl (fun ls hl => ?_)
  refine x_iconst hx hb dX7_ofAll_2 ?_
  refine lv_istore_n (lv' := [(3, .int (zI 0)), (2, .int (zI 0)), (0, .ref (a 0)), (1, .int (zI 6))]) hx hb dX7_ofAll_3 rfl hl (by decide) rfl (fun ls hl => ?_)
  refine lv_iload_n hx hb dX7_ofAll_4 rfl (lv_at hl 0 rfl) ?_
  refine lv_aload_n hx hb dX7_ofAll_5 rfl (lv_at hl 2 rfl) ?_
  refine x_bipush hx hb dX7_ofAll_6 (by decide +kernel) ?_
  refine x_callVR (As := [.int (zI 8)]) (rest := [.int (zI 0)]) S hK (c_X7_num l D cs a σ pa sl sv pd kn ln 8 (by omega)) (cwV 1 hts gX7_ofAll_X7_num rfl rfl rfl (by decide +kernel) ⟨(Nat.le_of_ble_eq_true rfl), (Nat.le_of_ble_eq_true rfl)⟩) (x_rc hK (mAt_0 hM) rfl) hM rfl hl.1 (Nat.le_of_ble_eq_true rfl) dX7_ofAll_8 ⟨Nat.zero_le _, Nat.zero_le _⟩ ?_
  refine x_icmp_ge (tgt := 53) hx hb dX7_ofAll_11 (by decide) (by omega) (by omega) (fun c_11 => ?_) (fun c_11 => ?_)
  · refine x_iconst hx hb dX7_ofAll_53 ?_
    refine lv_istore_n (lv' := [(3, .int (zI 0)), (2, .int (zI 0)), (0, .ref (a 0)), (1, .int (zI 6))]) hx hb dX7_ofAll_54 rfl hl (by decide) rfl (fun ls hl => ?_)
    have lp55 : ∀ (n : Nat) (j : Int) (acc : Int) (n0 : Nat), (σ 7 - j).toNat < n → (0 ≤ j ∧ j ≤ σ 7) → (j = (n0 : Int)) → (acc = trS σ n0) → ∀ (ls : Array Slot), lv_has ls 4 [(3, .int (zI j)), (2, .int (zI acc)), (0, .ref (a 0)), (1, .int (zI 6))] → W p l e (headSpec wsX7_ofAll ({ frames := 3, cells := 0, slots := 0, locals := 64 } : Room)).room s m ([.ref (a 0), .int (zI 6)] : List Value).toArray below meth c s.heap [] 0 0 (MQ below (kS (some (.int (zI (trS σ (σ 7).toNat))))) ([.ref (a 0), .int (zI 6)] : List Value).toArray s 0 0 (fun _ => False)) (F0 m 55 ls []) := by
      intro n
      induction n with
      | zero => intro j acc n0 hms; exact absurd hms (Nat.not_lt_zero _)
      | succ n ih =>
        intro j acc n0 hms hj hn ha ls hl
        have ih55 := ih
        clear ih
        refine lv_iload_n hx hb dX7_ofAll_55 rfl (lv_at hl 0 rfl) ?_
        refine lv_aload_n hx hb dX7_ofAll_56 rfl (lv_at hl 2 rfl) ?_
        refine x_bipush hx hb dX7_ofAll_57 (by decide +kernel) ?_
        refine x_callVR (As := [.int (zI 7)]) (rest := [.int (zI j)]) S hK (c_X7_num l D cs a σ pa sl sv pd kn ln 7 (by omega)) (cwV 1 hts gX7_ofAll_X7_num rfl rfl rfl (by decide +kernel) ⟨(Nat.le_of_ble_eq_true rfl), (Nat.le_of_ble_eq_true rfl)⟩) (x_rc hK (mAt_0 hM) rfl) hM rfl hl.1 (Nat.le_of_ble_eq_true rfl) dX7_ofAll_59 ⟨Nat.zero_le _, Nat.zero_le _⟩ ?_
        refine x_icmp_ge (tgt := 103) hx hb dX7_ofAll_62 (by decide) (by omega) (by omega) (fun c_62 => ?_) (fun c_62 => ?_)
        · refine lv_iload_n hx hb dX7_ofAll_103 rfl (lv_at hl 1 rfl) ?_
          exact x_iretR hx hb hr hlocks (by rw [ha, show (σ 7).toNat = n0 by omega]) rfl dX7_ofAll_104
        · refine lv_iload_n hx hb dX7_ofAll_65 rfl (lv_at hl 3 rfl) ?_
          refine x_iconst hx hb dX7_ofAll_66 ?_
          refine x_icmp_le (tgt := 103) hx hb dX7_ofAll_67 (by decide) (by decide) (by decide) (fun q => absurd q (by decide)) (fun _ => ?_)
          refine lv_iload_n hx hb dX7_ofAll_70 rfl (lv_at hl 3 rfl) ?_
          refine x_iconst hx hb dX7_ofAll_71 ?_
          refine x_icmp_ne (tgt := 89) hx hb dX7_ofAll_72 (by decide) (by decide) (by decide) (fun _ => ?_) (fun q => absurd q (by decide))
          refine lv_iload_n hx hb dX7_ofAll_89 rfl (lv_at hl 1 rfl) ?_
          refine lv_aload_n hx hb dX7_ofAll_90 rfl (lv_at hl 2 rfl) ?_
          refine lv_iload_n hx hb dX7_ofAll_91 rfl (lv_at hl 0 rfl) ?_
          refine x_callVR (As := [.int (zI j)]) (rest := [.int (zI acc)]) S hK (c_X7_turnsOf l D cs a σ pa sl sv pd kn ln j (by omega)) (cwV 1 hts gX7_ofAll_X7_turnsOf rfl rfl rfl (by decide +kernel) ⟨(Nat.le_of_ble_eq_true rfl), (Nat.le_of_ble_eq_true rfl)⟩) (x_rc hK (mAt_0 hM) rfl) hM rfl hl.1 (Nat.le_of_ble_eq_true rfl) dX7_ofAll_92 ⟨Nat.zero_le _, Nat.zero_le _⟩ ?_
          refine x_iadd hx hb dX7_ofAll_95 ?_
          refine lv_istore_n (lv' := [(2, .int (zI (acc + (trn σ j)))), (3, .int (zI j)), (0, .ref (a 0)), (1, .int (zI 6))]) hx hb dX7_ofAll_96 rfl hl (by decide) rfl (fun ls hl => ?_)
          refine x_iinc (x := j) (lv' := [(3, .int (zI (j + 1))), (2, .int (zI (acc + (trn σ j)))), (0, .ref (a 0)), (1, .int (zI 6))]) hx hb dX7_ofAll_97 hl (k := 1) rfl (by decide) rfl (fun ls hl => ?_)
          refine lv_goto (tgt := 55) hx hb dX7_ofAll_100 (by decide) ?_
          exact ih55 (j + 1) (acc + (trn σ j)) (n0 + 1) (by omega) (by omega) (by omega) (by rw [ha, hn]; rfl) ls (lv_sub hl [0, 1, 2, 3] rfl)
    exact lp55 ((σ 7 - (0 : Int)).toNat + 1) 0 0 0 (Nat.lt_succ_self _) (by omega) (by omega) (by rfl) ls (lv_sub hl [0, 1, 2, 3] rfl)
  · refine lv_iload_n hx hb dX7_ofAll_14 rfl (lv_at hl 3 rfl) ?_
    refine x_iconst hx hb dX7_ofAll_15 ?_
    refine x_icmp_ne (tgt := 53) hx hb dX7_ofAll_16 (by decide) (by decide) (by decide) (fun _ => ?_) (fun q => absurd q (by decide))
    refine x_iconst hx hb dX7_ofAll_53 ?_
    refine lv_istore_n (lv' := [(3, .int (zI 0)), (2, .int (zI 0)), (0, .ref (a 0)), (1, .int (zI 6))]) hx hb dX7_ofAll_54 rfl hl (by decide) rfl (fun ls hl => ?_)
    have lp55 : ∀ (n : Nat) (j : Int) (acc : Int) (n0 : Nat), (σ 7 - j).toNat < n → (0 ≤ j ∧ j ≤ σ 7) → (j = (n0 : Int)) → (acc = trS σ n0) → ∀ (ls : Array Slot), lv_has ls 4 [(3, .int (zI j)), (2, .int (zI acc)), (0, .ref (a 0)), (1, .int (zI 6))] → W p l e (headSpec wsX7_ofAll ({ frames := 3, cells := 0, slots := 0, locals := 64 } : Room)).room s m ([.ref (a 0), .int (zI 6)] : List Value).toArray below meth c s.heap [] 0 0 (MQ below (kS (some (.int (zI (trS σ (σ 7).toNat))))) ([.ref (a 0), .int (zI 6)] : List Value).toArray s 0 0 (fun _ => False)) (F0 m 55 ls []) := by
      intro n
      induction n with
      | zero => intro j acc n0 hms; exact absurd hms (Nat.not_lt_zero _)
      | succ n ih =>
        intro j acc n0 hms hj hn ha ls hl
        have ih55 := ih
        clear ih
        refine lv_iload_n hx hb dX7_ofAll_55 rfl (lv_at hl 0 rfl) ?_
        refine lv_aload_n hx hb dX7_ofAll_56 rfl (lv_at hl 2 rfl) ?_
        refine x_bipush hx hb dX7_ofAll_57 (by decide +kernel) ?_
        refine x_callVR (As := [.int (zI 7)]) (rest := [.int (zI j)]) S hK (c_X7_num l D cs a σ pa sl sv pd kn ln 7 (by omega)) (cwV 1 hts gX7_ofAll_X7_num rfl rfl rfl (by decide +kernel) ⟨(Nat.le_of_ble_eq_true rfl), (Nat.le_of_ble_eq_true rfl)⟩) (x_rc hK (mAt_0 hM) rfl) hM rfl hl.1 (Nat.le_of_ble_eq_true rfl) dX7_ofAll_59 ⟨Nat.zero_le _, Nat.zero_le _⟩ ?_
        refine x_icmp_ge (tgt := 103) hx hb dX7_ofAll_62 (by decide) (by omega) (by omega) (fun c_62 => ?_) (fun c_62 => ?_)
        · refine lv_iload_n hx hb dX7_ofAll_103 rfl (lv_at hl 1 rfl) ?_
          exact x_iretR hx hb hr hlocks (by rw [ha, show (σ 7).toNat = n0 by omega]) rfl dX7_ofAll_104
        · refine lv_iload_n hx hb dX7_ofAll_65 rfl (lv_at hl 3 rfl) ?_
          refine x_iconst hx hb dX7_ofAll_66 ?_
          refine x_icmp_le (tgt := 103) hx hb dX7_ofAll_67 (by decide) (by decide) (by decide) (fun q => absurd q (by decide)) (fun _ => ?_)
          refine lv_iload_n hx hb dX7_ofAll_70 rfl (lv_at hl 3 rfl) ?_
          refine x_iconst hx hb dX7_ofAll_71 ?_
          refine x_icmp_ne (tgt := 89) hx hb dX7_ofAll_72 (by decide) (by decide) (by decide) (fun _ => ?_) (fun q => absurd q (by decide))
          refine lv_iload_n hx hb dX7_ofAll_89 rfl (lv_at hl 1 rfl) ?_
          refine lv_aload_n hx hb dX7_ofAll_90 rfl (lv_at hl 2 rfl) ?_
          refine lv_iload_n hx hb dX7_ofAll_91 rfl (lv_at hl 0 rfl) ?_
          refine x_callVR (As := [.int (zI j)]) (rest := [.int (zI acc)]) S hK (c_X7_turnsOf l D cs a σ pa sl sv pd kn ln j (by omega)) (cwV 1 hts gX7_ofAll_X7_turnsOf rfl rfl rfl (by decide +kernel) ⟨(Nat.le_of_ble_eq_true rfl), (Nat.le_of_ble_eq_true rfl)⟩) (x_rc hK (mAt_0 hM) rfl) hM rfl hl.1 (Nat.le_of_ble_eq_true rfl) dX7_ofAll_92 ⟨Nat.zero_le _, Nat.zero_le _⟩ ?_
          refine x_iadd hx hb dX7_ofAll_95 ?_
          refine lv_istore_n (lv' := [(2, .int (zI (acc + (trn σ j)))), (3, .int (zI j)), (0, .ref (a 0)), (1, .int (zI 6))]) hx hb dX7_ofAll_96 rfl hl (by decide) rfl (fun ls hl => ?_)
          refine x_iinc (x := j) (lv' := [(3, .int (zI (j + 1))), (2, .int (zI (acc + (trn σ j)))), (0, .ref (a 0)), (1, .int (zI 6))]) hx hb dX7_ofAll_97 hl (k := 1) rfl (by decide) rfl (fun ls hl => ?_)
          refine lv_goto (tgt := 55) hx hb dX7_ofAll_100 (by decide) ?_
          exact ih55 (j + 1) (acc + (trn σ j)) (n0 + 1) (by omega) (by omega) (by omega) (by rw [ha, hn]; rfl) ls (lv_sub hl [0, 1, 2, 3] rfl)
    exact lp55 ((σ 7 - (0 : Int)).toNat + 1) 0 0 0 (Nat.lt_succ_self _) (by omega) (by omega) (by rfl) ls (lv_sub hl [0, 1, 2, 3] rfl)
set_option maxHeartbeats 4000000 in
set_option maxRecDepth 100000 in
theorem c_X7_count (l : Launch) (D : va_G) (cs : Nat → ClassId) (a : Int → Nat) (σ : Int → Int) (pa : Int → Int) (sl : Int → Int) (sv : Int → Int) (pd : Int → Int) (kn : Int) (ln : Int) (w : Int) (hw : -2147483648 ≤ w ∧ w < 2147483648) (h8 : 0 ≤ σ 8 ∧ σ 8 ≤ 12) (h7 : 0 ≤ σ 7 ∧ σ 7 ≤ 7) (h6 : 0 ≤ σ 6 ∧ σ 6 < 1000000) (hl2 : ∀ j : Int, 0 ≤ j → j < σ 8 → σ (102 + 3 * j + 2) = 0 ∨ σ (102 + 3 * j + 2) = 1) (hb7 : ∀ k : Int, 0 ≤ k → k < σ 7 → σ (11 + 13 * k + 7) = 0 ∨ σ (11 + 13 * k + 7) = 1) : kR D cs l yX7_count wsX7_count ({ frames := 4, cells := 0, slots := 0, locals := 87 } : Room) [.ref (a 0), .int (zI w)] (fun H => mAt D cs a σ pa sl sv pd kn ln H) (some (.int (zI (cntS σ kn ln w)))) := by
  refine Met.ofW (cc := cX7_count) (maxL := 2) (ret := (some .int)) (by decide) rfl ?_
  intro p e s m args below meth c s₁ B hml hv
  obtain ⟨rfl, hK, hM⟩ := hv
  have hx := B.exec
  have hb := B.bytes
  have hr := B.returns
  have hts := atoms_spec (ws := wsX7_count) B.pre
  have hown : s.vm.findClass RX7 = some m.cls := findClass_of_methodNamed B.named
  have hlocks := B.notSynchronized
  have S : CallFix p m c cX7_count 2 s (([.ref (a 0), .int (zI w)] : List Value)).toArray wsX7_count RX7 := ⟨hx, hb, hml, hown, hts⟩
  have hin7 : ∀ w ∈ wsX70, w ∈ wsX7_count := by decide +kernel
  have hl := lv_entry ([.ref (a 0), .int (zI w)]) (n := 2) (Nat.le_of_ble_eq_true rfl)
  rw [lg_entry_eq]
  generalize (lg_sl ([.ref (a 0), .int (zI w)]) ++ List.replicate (2 - (lg_sl ([.ref (a 0), .int (zI w)])).length) Slot.unset).toArray = ls at hl ⊢
  have hl : lv_has ls 2 [(0, .ref (a 0)), (1, .int (zI w))] := hl
  refine lv_iload_n hx hb dX7_count_0 rfl (lv_at hl 1 rfl) ?_
  by_cases k_1_0 : w = 0
  · refine x_tabIn (k := 0) (off := 83) (tgt := 84) hx hb dX7_count_1 k_1_0 (by decide) (by decide) (by decide) rfl (by decide) ?_
    subst k_1_0
    refine lv_aload_n hx hb dX7_count_84 rfl (lv_at hl 0 rfl) ?_
    refine x_bipush hx hb dX7_count_85 (by decide +kernel) ?_
    refine x_callVR (As := [.int (zI 6)]) (rest := []) S hK (c_X7_num l D cs a σ pa sl sv pd kn ln 6 (by omega)) (cwV 1 hts gX7_count_X7_num rfl rfl rfl (by decide +kernel) ⟨(Nat.le_of_ble_eq_true rfl), (Nat.le_of_ble_eq_true rfl)⟩) (x_rc hK (mAt_0 hM) rfl) hM rfl hl.1 (Nat.le_of_ble_eq_true rfl) dX7_count_87 ⟨Nat.zero_le _, Nat.zero_le _⟩ ?_
    exact x_iretR hx hb hr hlocks (by first | rfl | (exfalso; omega) | (unfold cntS; repeat (first | rw [if_pos (by omega)] | rw [if_neg (by omega)]))) rfl dX7_count_90
  by_cases k_1_1 : w = 1
  · refine x_tabIn (k := 1) (off := 90) (tgt := 91) hx hb dX7_count_1 k_1_1 (by decide) (by decide) (by decide) rfl (by decide) ?_
    subst k_1_1
    refine lv_aload_n hx hb dX7_count_91 rfl (lv_at hl 0 rfl) ?_
    refine m_g_s S hin7 hK hM (hts (.fieldLink RX7 7 "EnergyDiscsModel" "s" "[J") (by decide +kernel)) dX7_count_92 ?_
    refine x_bipush hx hb dX7_count_95 (by decide +kernel) ?_
    refine m_l_s S hK hM (by omega) dX7_count_97 ?_
    refine x_callSR (As := [.long (zL (σ 6))]) (rest := []) S hK (c_X7_isNight l D cs (σ 6) (by omega)) (va_cwS 1 hts gX7_count_X7_isNight rfl rfl rfl (by decide +kernel) ⟨(Nat.le_of_ble_eq_true rfl), (Nat.le_of_ble_eq_true rfl)⟩) trivial rfl hl.1 (Nat.le_of_ble_eq_true rfl) dX7_count_98 ⟨Nat.zero_le _, Nat.zero_le _⟩ ?_
    refine x_ifb_eq (tgt := 108) hx hb dX7_count_101 (by decide)  (fun c_101 => ?_) (fun c_101 => ?_)
    · refine x_iconst hx hb dX7_count_108 ?_
      exact x_iretR hx hb hr hlocks (by first | rfl | (exfalso; omega) | (unfold cntS; repeat (first | rw [if_pos (by omega)] | rw [if_neg (by omega)]))) rfl dX7_count_109
    · refine x_iconst hx hb dX7_count_104 ?_
      refine lv_goto (tgt := 109) hx hb dX7_count_105 (by decide) ?_
      exact x_iretR hx hb hr hlocks (by first | rfl | (exfalso; omega) | (unfold cntS; repeat (first | rw [if_pos (by omega)] | rw [if_neg (by omega)]))) rfl dX7_count_109
  by_cases k_1_2 : w = 2
  · refine x_tabIn (k := 2) (off := 109) (tgt := 110) hx hb dX7_count_1 k_1_2 (by decide) (by decide) (by decide) rfl (by decide) ?_
    subst k_1_2
    refine lv_aload_n hx hb dX7_count_110 rfl (lv_at hl 0 rfl) ?_
    refine x_bipush hx hb dX7_count_111 (by decide +kernel) ?_
    refine lv_iload_n hx hb dX7_count_113 rfl (lv_at hl 1 rfl) ?_
    refine x_iadd hx hb dX7_count_114 ?_
    refine x_iconst hx hb dX7_count_115 ?_
    refine x_isub hx hb dX7_count_116 ?_
    refine x_callVR (As := [.int (zI ((7 + 2) - 2))]) (rest := []) S hK (c_X7_num l D cs a σ pa sl sv pd kn ln ((7 + 2) - 2) (by omega)) (cwV 1 hts gX7_count_X7_num rfl rfl rfl (by decide +kernel) ⟨(Nat.le_of_ble_eq_true rfl), (Nat.le_of_ble_eq_true rfl)⟩) (x_rc hK (mAt_0 hM) rfl) hM rfl hl.1 (Nat.le_of_ble_eq_true rfl) dX7_count_117 ⟨Nat.zero_le _, Nat.zero_le _⟩ ?_
    exact x_iretR hx hb hr hlocks (by first | rfl | (exfalso; omega) | (unfold cntS; repeat (first | rw [if_pos (by omega)] | rw [if_neg (by omega)]))) rfl dX7_count_120
  by_cases k_1_3 : w = 3
  · refine x_tabIn (k := 3) (off := 109) (tgt := 110) hx hb dX7_count_1 k_1_3 (by decide) (by decide) (by decide) rfl (by decide) ?_
    subst k_1_3
    refine lv_aload_n hx hb dX7_count_110 rfl (lv_at hl 0 rfl) ?_
    refine x_bipush hx hb dX7_count_111 (by decide +kernel) ?_
    refine lv_iload_n hx hb dX7_count_113 rfl (lv_at hl 1 rfl) ?_
    refine x_iadd hx hb dX7_count_114 ?_
    refine x_iconst hx hb dX7_count_115 ?_
    refine x_isub hx hb dX7_count_116 ?_
    refine x_callVR (As := [.int (zI ((7 + 3) - 2))]) (rest := []) S hK (c_X7_num l D cs a σ pa sl sv pd kn ln ((7 + 3) - 2) (by omega)) (cwV 1 hts gX7_count_X7_num rfl rfl rfl (by decide +kernel) ⟨(Nat.le_of_ble_eq_true rfl), (Nat.le_of_ble_eq_true rfl)⟩) (x_rc hK (mAt_0 hM) rfl) hM rfl hl.1 (Nat.le_of_ble_eq_true rfl) dX7_count_117 ⟨Nat.zero_le _, Nat.zero_le _⟩ ?_
    exact x_iretR hx hb hr hlocks (by first | rfl | (exfalso; omega) | (unfold cntS; repeat (first | rw [if_pos (by omega)] | rw [if_neg (by omega)]))) rfl dX7_count_120
  by_cases k_1_4 : w = 4
  · refine x_tabIn (k := 4) (off := 120) (tgt := 121) hx hb dX7_count_1 k_1_4 (by decide) (by decide) (by decide) rfl (by decide) ?_
    subst k_1_4
    refine lv_aload_n hx hb dX7_count_121 rfl (lv_at hl 0 rfl) ?_
    refine lv_iload_n hx hb dX7_count_122 rfl (lv_at hl 1 rfl) ?_
    refine x_callVR (As := [.int (zI 4)]) (rest := []) S hK (c_X7_ofAll_4 l D cs a σ pa sl sv pd kn ln (by omega) (by omega) (by exact hl2)) (cwV 1 hts gX7_count_X7_ofAll rfl rfl rfl (by decide +kernel) ⟨(Nat.le_of_ble_eq_true rfl), (Nat.le_of_ble_eq_true rfl)⟩) (x_rc hK (mAt_0 hM) rfl) hM rfl hl.1 (Nat.le_of_ble_eq_true rfl) dX7_count_123 ⟨Nat.zero_le _, Nat.zero_le _⟩ ?_
    exact x_iretR hx hb hr hlocks (by first | rfl | (exfalso; omega) | (unfold cntS; repeat (first | rw [if_pos (by omega)] | rw [if_neg (by omega)]))) rfl dX7_count_126
  by_cases k_1_5 : w = 5
  · refine x_tabIn (k := 5) (off := 120) (tgt := 121) hx hb dX7_count_1 k_1_5 (by decide) (by decide) (by decide) rfl (by decide) ?_
    subst k_1_5
    refine lv_aload_n hx hb dX7_count_121 rfl (lv_at hl 0 rfl) ?_
    refine lv_iload_n hx hb dX7_count_122 rfl (lv_at hl 1 rfl) ?_
    refine x_callVR (As := [.int (zI 5)]) (rest := []) S hK (c_X7_ofAll_5 l D cs a σ pa sl sv pd kn ln (by omega) (by omega) (by exact hb7)) (cwV 1 hts gX7_count_X7_ofAll rfl rfl rfl (by decide +kernel) ⟨(Nat.le_of_ble_eq_true rfl), (Nat.le_of_ble_eq_true rfl)⟩) (x_rc hK (mAt_0 hM) rfl) hM rfl hl.1 (Nat.le_of_ble_eq_true rfl) dX7_count_123 ⟨Nat.zero_le _, Nat.zero_le _⟩ ?_
    exact x_iretR hx hb hr hlocks (by first | rfl | (exfalso; omega) | (unfold cntS; repeat (first | rw [if_pos (by omega)] | rw [if_neg (by omega)]))) rfl dX7_count_126
  by_cases k_1_6 : w = 6
  · refine x_tabIn (k := 6) (off := 120) (tgt := 121) hx hb dX7_count_1 k_1_6 (by decide) (by decide) (by decide) rfl (by decide) ?_
    subst k_1_6
    refine lv_aload_n hx hb dX7_count_121 rfl (lv_at hl 0 rfl) ?_
    refine lv_iload_n hx hb dX7_count_122 rfl (lv_at hl 1 rfl) ?_
    refine x_callVR (As := [.int (zI 6)]) (rest := []) S hK (c_X7_ofAll_6 l D cs a σ pa sl sv pd kn ln (by omega) (by omega)) (cwV 1 hts gX7_count_X7_ofAll rfl rfl rfl (by decide +kernel) ⟨(Nat.le_of_ble_eq_true rfl), (Nat.le_of_ble_eq_true rfl)⟩) (x_rc hK (mAt_0 hM) rfl) hM rfl hl.1 (Nat.le_of_ble_eq_true rfl) dX7_count_123 ⟨Nat.zero_le _, Nat.zero_le _⟩ ?_
    exact x_iretR hx hb hr hlocks (by first | rfl | (exfalso; omega) | (unfold cntS; repeat (first | rw [if_pos (by omega)] | rw [if_neg (by omega)]))) rfl dX7_count_126
  by_cases k_1_7 : w = 7
  · refine x_tabIn (k := 7) (off := 126) (tgt := 127) hx hb dX7_count_1 k_1_7 (by decide) (by decide) (by decide) rfl (by decide) ?_
    subst k_1_7
    refine lv_aload_n hx hb dX7_count_127 rfl (lv_at hl 0 rfl) ?_
    refine x_bipush hx hb dX7_count_128 (by decide +kernel) ?_
    refine lv_iload_n hx hb dX7_count_130 rfl (lv_at hl 1 rfl) ?_
    refine x_iadd hx hb dX7_count_131 ?_
    refine x_bipush hx hb dX7_count_132 (by decide +kernel) ?_
    refine x_isub hx hb dX7_count_134 ?_
    refine x_callVR (As := [.int (zI ((9 + 7) - 7))]) (rest := []) S hK (c_X7_num l D cs a σ pa sl sv pd kn ln ((9 + 7) - 7) (by omega)) (cwV 1 hts gX7_count_X7_num rfl rfl rfl (by decide +kernel) ⟨(Nat.le_of_ble_eq_true rfl), (Nat.le_of_ble_eq_true rfl)⟩) (x_rc hK (mAt_0 hM) rfl) hM rfl hl.1 (Nat.le_of_ble_eq_true rfl) dX7_count_135 ⟨Nat.zero_le _, Nat.zero_le _⟩ ?_
    exact x_iretR hx hb hr hlocks (by first | rfl | (exfalso; omega) | (unfold cntS; repeat (first | rw [if_pos (by omega)] | rw [if_neg (by omega)]))) rfl dX7_count_138
  by_cases k_1_8 : w = 8
  · refine x_tabIn (k := 8) (off := 126) (tgt := 127) hx hb dX7_count_1 k_1_8 (by decide) (by decide) (by decide) rfl (by decide) ?_
    subst k_1_8
    refine lv_aload_n hx hb dX7_count_127 rfl (lv_at hl 0 rfl) ?_
    refine x_bipush hx hb dX7_count_128 (by decide +kernel) ?_
    refine lv_iload_n hx hb dX7_count_130 rfl (lv_at hl 1 rfl) ?_
    refine x_iadd hx hb dX7_count_131 ?_
    refine x_bipush hx hb dX7_count_132 (by decide +kernel) ?_
    refine x_isub hx hb dX7_count_134 ?_
    refine x_callVR (As := [.int (zI ((9 + 8) - 7))]) (rest := []) S hK (c_X7_num l D cs a σ pa sl sv pd kn ln ((9 + 8) - 7) (by omega)) (cwV 1 hts gX7_count_X7_num rfl rfl rfl (by decide +kernel) ⟨(Nat.le_of_ble_eq_true rfl), (Nat.le_of_ble_eq_true rfl)⟩) (x_rc hK (mAt_0 hM) rfl) hM rfl hl.1 (Nat.le_of_ble_eq_true rfl) dX7_count_135 ⟨Nat.zero_le _, Nat.zero_le _⟩ ?_
    exact x_iretR hx hb hr hlocks (by first | rfl | (exfalso; omega) | (unfold cntS; repeat (first | rw [if_pos (by omega)] | rw [if_neg (by omega)]))) rfl dX7_count_138
  by_cases k_1_9 : w = 9
  · refine x_tabIn (k := 9) (off := 148) (tgt := 149) hx hb dX7_count_1 k_1_9 (by decide) (by decide) (by decide) rfl (by decide) ?_
    subst k_1_9
    refine lv_iload_n hx hb dX7_count_149 rfl (lv_at hl 1 rfl) ?_
    refine x_bipush hx hb dX7_count_150 (by decide +kernel) ?_
    refine x_bipush hx hb dX7_count_152 (by decide +kernel) ?_
    refine x_callSR (As := [.int (zI 9), .int (zI 9), .int (zI 14)]) (rest := []) S hK (c_X7_in l D cs 9 9 14 (by omega) (by omega) (by omega)) (va_cwS 3 hts gX7_count_X7_in rfl rfl rfl (by decide +kernel) ⟨(Nat.le_of_ble_eq_true rfl), (Nat.le_of_ble_eq_true rfl)⟩) trivial rfl hl.1 (Nat.le_of_ble_eq_true rfl) dX7_count_154 ⟨Nat.zero_le _, Nat.zero_le _⟩ ?_
    refine x_ifb_eq (tgt := 171) hx hb dX7_count_157 (by decide)  (fun c_157 => ?_) (fun c_157 => ?_)
    · refine x_bipush hx hb dX7_count_171 (by decide +kernel) ?_
      exact x_iretR hx hb hr hlocks (by first | rfl | (exfalso; omega) | (unfold cntS; repeat (first | rw [if_pos (by omega)] | rw [if_neg (by omega)]))) rfl dX7_count_173
    · refine lv_aload_n hx hb dX7_count_160 rfl (lv_at hl 0 rfl) ?_
      refine lv_iload_n hx hb dX7_count_161 rfl (lv_at hl 1 rfl) ?_
      refine x_bipush hx hb dX7_count_162 (by decide +kernel) ?_
      refine x_isub hx hb dX7_count_164 ?_
      refine x_callVR (As := [.int (zI (9 - 9))]) (rest := []) S hK (c_X7_num l D cs a σ pa sl sv pd kn ln (9 - 9) (by omega)) (cwV 1 hts gX7_count_X7_num rfl rfl rfl (by decide +kernel) ⟨(Nat.le_of_ble_eq_true rfl), (Nat.le_of_ble_eq_true rfl)⟩) (x_rc hK (mAt_0 hM) rfl) hM rfl hl.1 (Nat.le_of_ble_eq_true rfl) dX7_count_165 ⟨Nat.zero_le _, Nat.zero_le _⟩ ?_
      refine lv_goto (tgt := 173) hx hb dX7_count_168 (by decide) ?_
      exact x_iretR hx hb hr hlocks (by first | rfl | (exfalso; omega) | (unfold cntS; repeat (first | rw [if_pos (by omega)] | rw [if_neg (by omega)]))) rfl dX7_count_173
  by_cases k_1_10 : w = 10
  · refine x_tabIn (k := 10) (off := 148) (tgt := 149) hx hb dX7_count_1 k_1_10 (by decide) (by decide) (by decide) rfl (by decide) ?_
    subst k_1_10
    refine lv_iload_n hx hb dX7_count_149 rfl (lv_at hl 1 rfl) ?_
    refine x_bipush hx hb dX7_count_150 (by decide +kernel) ?_
    refine x_bipush hx hb dX7_count_152 (by decide +kernel) ?_
    refine x_callSR (As := [.int (zI 10), .int (zI 9), .int (zI 14)]) (rest := []) S hK (c_X7_in l D cs 10 9 14 (by omega) (by omega) (by omega)) (va_cwS 3 hts gX7_count_X7_in rfl rfl rfl (by decide +kernel) ⟨(Nat.le_of_ble_eq_true rfl), (Nat.le_of_ble_eq_true rfl)⟩) trivial rfl hl.1 (Nat.le_of_ble_eq_true rfl) dX7_count_154 ⟨Nat.zero_le _, Nat.zero_le _⟩ ?_
    refine x_ifb_eq (tgt := 171) hx hb dX7_count_157 (by decide)  (fun c_157 => ?_) (fun c_157 => ?_)
    · refine x_bipush hx hb dX7_count_171 (by decide +kernel) ?_
      exact x_iretR hx hb hr hlocks (by first | rfl | (exfalso; omega) | (unfold cntS; repeat (first | rw [if_pos (by omega)] | rw [if_neg (by omega)]))) rfl dX7_count_173
    · refine lv_aload_n hx hb dX7_count_160 rfl (lv_at hl 0 rfl) ?_
      refine lv_iload_n hx hb dX7_count_161 rfl (lv_at hl 1 rfl) ?_
      refine x_bipush hx hb dX7_count_162 (by decide +kernel) ?_
      refine x_isub hx hb dX7_count_164 ?_
      refine x_callVR (As := [.int (zI (10 - 9))]) (rest := []) S hK (c_X7_num l D cs a σ pa sl sv pd kn ln (10 - 9) (by omega)) (cwV 1 hts gX7_count_X7_num rfl rfl rfl (by decide +kernel) ⟨(Nat.le_of_ble_eq_true rfl), (Nat.le_of_ble_eq_true rfl)⟩) (x_rc hK (mAt_0 hM) rfl) hM rfl hl.1 (Nat.le_of_ble_eq_true rfl) dX7_count_165 ⟨Nat.zero_le _, Nat.zero_le _⟩ ?_
      refine lv_goto (tgt := 173) hx hb dX7_count_168 (by decide) ?_
      exact x_iretR hx hb hr hlocks (by first | rfl | (exfalso; omega) | (unfold cntS; repeat (first | rw [if_pos (by omega)] | rw [if_neg (by omega)]))) rfl dX7_count_173
  by_cases k_1_11 : w = 11
  · refine x_tabIn (k := 11) (off := 148) (tgt := 149) hx hb dX7_count_1 k_1_11 (by decide) (by decide) (by decide) rfl (by decide) ?_
    subst k_1_11
    refine lv_iload_n hx hb dX7_count_149 rfl (lv_at hl 1 rfl) ?_
    refine x_bipush hx hb dX7_count_150 (by decide +kernel) ?_
    refine x_bipush hx hb dX7_count_152 (by decide +kernel) ?_
    refine x_callSR (As := [.int (zI 11), .int (zI 9), .int (zI 14)]) (rest := []) S hK (c_X7_in l D cs 11 9 14 (by omega) (by omega) (by omega)) (va_cwS 3 hts gX7_count_X7_in rfl rfl rfl (by decide +kernel) ⟨(Nat.le_of_ble_eq_true rfl), (Nat.le_of_ble_eq_true rfl)⟩) trivial rfl hl.1 (Nat.le_of_ble_eq_true rfl) dX7_count_154 ⟨Nat.zero_le _, Nat.zero_le _⟩ ?_
    refine x_ifb_eq (tgt := 171) hx hb dX7_count_157 (by decide)  (fun c_157 => ?_) (fun c_157 => ?_)
    · refine x_bipush hx hb dX7_count_171 (by decide +kernel) ?_
      exact x_iretR hx hb hr hlocks (by first | rfl | (exfalso; omega) | (unfold cntS; repeat (first | rw [if_pos (by omega)] | rw [if_neg (by omega)]))) rfl dX7_count_173
    · refine lv_aload_n hx hb dX7_count_160 rfl (lv_at hl 0 rfl) ?_
      refine lv_iload_n hx hb dX7_count_161 rfl (lv_at hl 1 rfl) ?_
      refine x_bipush hx hb dX7_count_162 (by decide +kernel) ?_
      refine x_isub hx hb dX7_count_164 ?_
      refine x_callVR (As := [.int (zI (11 - 9))]) (rest := []) S hK (c_X7_num l D cs a σ pa sl sv pd kn ln (11 - 9) (by omega)) (cwV 1 hts gX7_count_X7_num rfl rfl rfl (by decide +kernel) ⟨(Nat.le_of_ble_eq_true rfl), (Nat.le_of_ble_eq_true rfl)⟩) (x_rc hK (mAt_0 hM) rfl) hM rfl hl.1 (Nat.le_of_ble_eq_true rfl) dX7_count_165 ⟨Nat.zero_le _, Nat.zero_le _⟩ ?_
      refine lv_goto (tgt := 173) hx hb dX7_count_168 (by decide) ?_
      exact x_iretR hx hb hr hlocks (by first | rfl | (exfalso; omega) | (unfold cntS; repeat (first | rw [if_pos (by omega)] | rw [if_neg (by omega)]))) rfl dX7_count_173
  by_cases k_1_12 : w = 12
  · refine x_tabIn (k := 12) (off := 148) (tgt := 149) hx hb dX7_count_1 k_1_12 (by decide) (by decide) (by decide) rfl (by decide) ?_
    subst k_1_12
    refine lv_iload_n hx hb dX7_count_149 rfl (lv_at hl 1 rfl) ?_
    refine x_bipush hx hb dX7_count_150 (by decide +kernel) ?_
    refine x_bipush hx hb dX7_count_152 (by decide +kernel) ?_
    refine x_callSR (As := [.int (zI 12), .int (zI 9), .int (zI 14)]) (rest := []) S hK (c_X7_in l D cs 12 9 14 (by omega) (by omega) (by omega)) (va_cwS 3 hts gX7_count_X7_in rfl rfl rfl (by decide +kernel) ⟨(Nat.le_of_ble_eq_true rfl), (Nat.le_of_ble_eq_true rfl)⟩) trivial rfl hl.1 (Nat.le_of_ble_eq_true rfl) dX7_count_154 ⟨Nat.zero_le _, Nat.zero_le _⟩ ?_
    refine x_ifb_eq (tgt := 171) hx hb dX7_count_157 (by decide)  (fun c_157 => ?_) (fun c_157 => ?_)
    · refine x_bipush hx hb dX7_count_171 (by decide +kernel) ?_
      exact x_iretR hx hb hr hlocks (by first | rfl | (exfalso; omega) | (unfold cntS; repeat (first | rw [if_pos (by omega)] | rw [if_neg (by omega)]))) rfl dX7_count_173
    · refine lv_aload_n hx hb dX7_count_160 rfl (lv_at hl 0 rfl) ?_
      refine lv_iload_n hx hb dX7_count_161 rfl (lv_at hl 1 rfl) ?_
      refine x_bipush hx hb dX7_count_162 (by decide +kernel) ?_
      refine x_isub hx hb dX7_count_164 ?_
      refine x_callVR (As := [.int (zI (12 - 9))]) (rest := []) S hK (c_X7_num l D cs a σ pa sl sv pd kn ln (12 - 9) (by omega)) (cwV 1 hts gX7_count_X7_num rfl rfl rfl (by decide +kernel) ⟨(Nat.le_of_ble_eq_true rfl), (Nat.le_of_ble_eq_true rfl)⟩) (x_rc hK (mAt_0 hM) rfl) hM rfl hl.1 (Nat.le_of_ble_eq_true rfl) dX7_count_165 ⟨Nat.zero_le _, Nat.zero_le _⟩ ?_
      refine lv_goto (tgt := 173) hx hb dX7_count_168 (by decide) ?_
      exact x_iretR hx hb hr hlocks (by first | rfl | (exfalso; omega) | (unfold cntS; repeat (first | rw [if_pos (by omega)] | rw [if_neg (by omega)]))) rfl dX7_count_173
  by_cases k_1_13 : w = 13
  · refine x_tabIn (k := 13) (off := 148) (tgt := 149) hx hb dX7_count_1 k_1_13 (by decide) (by decide) (by decide) rfl (by decide) ?_
    subst k_1_13
    refine lv_iload_n hx hb dX7_count_149 rfl (lv_at hl 1 rfl) ?_
    refine x_bipush hx hb dX7_count_150 (by decide +kernel) ?_
    refine x_bipush hx hb dX7_count_152 (by decide +kernel) ?_
    refine x_callSR (As := [.int (zI 13), .int (zI 9), .int (zI 14)]) (rest := []) S hK (c_X7_in l D cs 13 9 14 (by omega) (by omega) (by omega)) (va_cwS 3 hts gX7_count_X7_in rfl rfl rfl (by decide +kernel) ⟨(Nat.le_of_ble_eq_true rfl), (Nat.le_of_ble_eq_true rfl)⟩) trivial rfl hl.1 (Nat.le_of_ble_eq_true rfl) dX7_count_154 ⟨Nat.zero_le _, Nat.zero_le _⟩ ?_
    refine x_ifb_eq (tgt := 171) hx hb dX7_count_157 (by decide)  (fun c_157 => ?_) (fun c_157 => ?_)
    · refine x_bipush hx hb dX7_count_171 (by decide +kernel) ?_
      exact x_iretR hx hb hr hlocks (by first | rfl | (exfalso; omega) | (unfold cntS; repeat (first | rw [if_pos (by omega)] | rw [if_neg (by omega)]))) rfl dX7_count_173
    · refine lv_aload_n hx hb dX7_count_160 rfl (lv_at hl 0 rfl) ?_
      refine lv_iload_n hx hb dX7_count_161 rfl (lv_at hl 1 rfl) ?_
      refine x_bipush hx hb dX7_count_162 (by decide +kernel) ?_
      refine x_isub hx hb dX7_count_164 ?_
      refine x_callVR (As := [.int (zI (13 - 9))]) (rest := []) S hK (c_X7_num l D cs a σ pa sl sv pd kn ln (13 - 9) (by omega)) (cwV 1 hts gX7_count_X7_num rfl rfl rfl (by decide +kernel) ⟨(Nat.le_of_ble_eq_true rfl), (Nat.le_of_ble_eq_true rfl)⟩) (x_rc hK (mAt_0 hM) rfl) hM rfl hl.1 (Nat.le_of_ble_eq_true rfl) dX7_count_165 ⟨Nat.zero_le _, Nat.zero_le _⟩ ?_
      refine lv_goto (tgt := 173) hx hb dX7_count_168 (by decide) ?_
      exact x_iretR hx hb hr hlocks (by first | rfl | (exfalso; omega) | (unfold cntS; repeat (first | rw [if_pos (by omega)] | rw [if_neg (by omega)]))) rfl dX7_count_173
  by_cases k_1_14 : w = 14
  · refine x_tabIn (k := 14) (off := 148) (tgt := 149) hx hb dX7_count_1 k_1_14 (by decide) (by decide) (by decide) rfl (by decide) ?_
    subst k_1_14
    refine lv_iload_n hx hb dX7_count_149 rfl (lv_at hl 1 rfl) ?_
    refine x_bipush hx hb dX7_count_150 (by decide +kernel) ?_
    refine x_bipush hx hb dX7_count_152 (by decide +kernel) ?_
    refine x_callSR (As := [.int (zI 14), .int (zI 9), .int (zI 14)]) (rest := []) S hK (c_X7_in l D cs 14 9 14 (by omega) (by omega) (by omega)) (va_cwS 3 hts gX7_count_X7_in rfl rfl rfl (by decide +kernel) ⟨(Nat.le_of_ble_eq_true rfl), (Nat.le_of_ble_eq_true rfl)⟩) trivial rfl hl.1 (Nat.le_of_ble_eq_true rfl) dX7_count_154 ⟨Nat.zero_le _, Nat.zero_le _⟩ ?_
    refine x_ifb_eq (tgt := 171) hx hb dX7_count_157 (by decide)  (fun c_157 => ?_) (fun c_157 => ?_)
    · refine x_bipush hx hb dX7_count_171 (by decide +kernel) ?_
      exact x_iretR hx hb hr hlocks (by first | rfl | (exfalso; omega) | (unfold cntS; repeat (first | rw [if_pos (by omega)] | rw [if_neg (by omega)]))) rfl dX7_count_173
    · refine lv_aload_n hx hb dX7_count_160 rfl (lv_at hl 0 rfl) ?_
      refine lv_iload_n hx hb dX7_count_161 rfl (lv_at hl 1 rfl) ?_
      refine x_bipush hx hb dX7_count_162 (by decide +kernel) ?_
      refine x_isub hx hb dX7_count_164 ?_
      refine x_callVR (As := [.int (zI (14 - 9))]) (rest := []) S hK (c_X7_num l D cs a σ pa sl sv pd kn ln (14 - 9) (by omega)) (cwV 1 hts gX7_count_X7_num rfl rfl rfl (by decide +kernel) ⟨(Nat.le_of_ble_eq_true rfl), (Nat.le_of_ble_eq_true rfl)⟩) (x_rc hK (mAt_0 hM) rfl) hM rfl hl.1 (Nat.le_of_ble_eq_true rfl) dX7_count_165 ⟨Nat.zero_le _, Nat.zero_le _⟩ ?_
      refine lv_goto (tgt := 173) hx hb dX7_count_168 (by decide) ?_
      exact x_iretR hx hb hr hlocks (by first | rfl | (exfalso; omega) | (unfold cntS; repeat (first | rw [if_pos (by omega)] | rw [if_neg (by omega)]))) rfl dX7_count_173
  by_cases k_1_15 : w = 15
  · refine x_tabIn (k := 15) (off := 138) (tgt := 139) hx hb dX7_count_1 k_1_15 (by decide) (by decide) (by decide) rfl (by decide) ?_
    subst k_1_15
    refine lv_aload_n hx hb dX7_count_139 rfl (lv_at hl 0 rfl) ?_
    refine m_g_length S hin7 hK hM (hts (.fieldLink RX7 135 "EnergyDiscsModel" "length" "I") (by decide +kernel)) dX7_count_140 ?_
    exact x_iretR hx hb hr hlocks (by first | rfl | (exfalso; omega) | (unfold cntS; repeat (first | rw [if_pos (by omega)] | rw [if_neg (by omega)]))) rfl dX7_count_143
  by_cases k_1_16 : w = 16
  · refine x_tabIn (k := 16) (off := 143) (tgt := 144) hx hb dX7_count_1 k_1_16 (by decide) (by decide) (by decide) rfl (by decide) ?_
    subst k_1_16
    refine lv_aload_n hx hb dX7_count_144 rfl (lv_at hl 0 rfl) ?_
    refine m_g_known S hin7 hK hM (hts (.fieldLink RX7 49 "EnergyDiscsModel" "known" "I") (by decide +kernel)) dX7_count_145 ?_
    exact x_iretR hx hb hr hlocks (by first | rfl | (exfalso; omega) | (unfold cntS; repeat (first | rw [if_pos (by omega)] | rw [if_neg (by omega)]))) rfl dX7_count_148
  refine x_tabOut (tgt := 149) hx hb dX7_count_1 (by omega) (by omega) (by decide) ?_
  refine lv_iload_n hx hb dX7_count_149 rfl (lv_at hl 1 rfl) ?_
  refine x_bipush hx hb dX7_count_150 (by decide +kernel) ?_
  refine x_bipush hx hb dX7_count_152 (by decide +kernel) ?_
  refine x_callSR (As := [.int (zI w), .int (zI 9), .int (zI 14)]) (rest := []) S hK (c_X7_in l D cs w 9 14 (by omega) (by omega) (by omega)) (va_cwS 3 hts gX7_count_X7_in rfl rfl rfl (by decide +kernel) ⟨(Nat.le_of_ble_eq_true rfl), (Nat.le_of_ble_eq_true rfl)⟩) trivial rfl hl.1 (Nat.le_of_ble_eq_true rfl) dX7_count_154 ⟨Nat.zero_le _, Nat.zero_le _⟩ ?_
  refine x_ifb_eq (tgt := 171) hx hb dX7_count_157 (by decide)  (fun c_157 => ?_) (fun c_157 => ?_)
  · refine x_bipush hx hb dX7_count_171 (by decide +kernel) ?_
    exact x_iretR hx hb hr hlocks (by first | rfl | (exfalso; omega) | (unfold cntS; repeat (first | rw [if_pos (by omega)] | rw [if_neg (by omega)]))) rfl dX7_count_173
  · refine lv_aload_n hx hb dX7_count_160 rfl (lv_at hl 0 rfl) ?_
    refine lv_iload_n hx hb dX7_count_161 rfl (lv_at hl 1 rfl) ?_
    refine x_bipush hx hb dX7_count_162 (by decide +kernel) ?_
    refine x_isub hx hb dX7_count_164 ?_
    refine x_callVR (As := [.int (zI (w - 9))]) (rest := []) S hK (c_X7_num l D cs a σ pa sl sv pd kn ln (w - 9) (by omega)) (cwV 1 hts gX7_count_X7_num rfl rfl rfl (by decide +kernel) ⟨(Nat.le_of_ble_eq_true rfl), (Nat.le_of_ble_eq_true rfl)⟩) (x_rc hK (mAt_0 hM) rfl) hM rfl hl.1 (Nat.le_of_ble_eq_true rfl) dX7_count_165 ⟨Nat.zero_le _, Nat.zero_le _⟩ ?_
    refine lv_goto (tgt := 173) hx hb dX7_count_168 (by decide) ?_
    exact x_iretR hx hb hr hlocks (by first | rfl | (exfalso; omega) | (unfold cntS; repeat (first | rw [if_pos (by omega)] | rw [if_neg (by omega)]))) rfl dX7_count_173
set_option maxHeartbeats 4000000 in
set_option maxRecDepth 100000 in
theorem c_X7_bill (l : Launch) (D : va_G) (cs : Nat → ClassId) (a : Int → Nat) (σ : Int → Int) (pa : Int → Int) (sl : Int → Int) (sv : Int → Int) (pd : Int → Int) (kn : Int) (ln : Int) (k : Int) (h7 : 0 ≤ σ 7 ∧ σ 7 ≤ 7) (hk : -2147483648 ≤ k ∧ k < 2147483648) : kR D cs l yX7_bill wsX7_bill ({ frames := 2, cells := 0, slots := 0, locals := 43 } : Room) [.ref (a 0), .int (zI k)] (fun H => mAt D cs a σ pa sl sv pd kn ln H) (some (.int (zI (if 0 ≤ k ∧ k < σ 7 then billS σ k else -1)))) := by
  refine Met.ofW (cc := cX7_bill) (maxL := 2) (ret := (some .int)) (by decide) rfl ?_
  intro p e s m args below meth c s₁ B hml hv
  obtain ⟨rfl, hK, hM⟩ := hv
  have hx := B.exec
  have hb := B.bytes
  have hr := B.returns
  have hts := atoms_spec (ws := wsX7_bill) B.pre
  have hown : s.vm.findClass RX7 = some m.cls := findClass_of_methodNamed B.named
  have hlocks := B.notSynchronized
  have S : CallFix p m c cX7_bill 2 s (([.ref (a 0), .int (zI k)] : List Value)).toArray wsX7_bill RX7 := ⟨hx, hb, hml, hown, hts⟩
  have hl := lv_entry ([.ref (a 0), .int (zI k)]) (n := 2) (Nat.le_of_ble_eq_true rfl)
  rw [lg_entry_eq]
  generalize (lg_sl ([.ref (a 0), .int (zI k)]) ++ List.replicate (2 - (lg_sl ([.ref (a 0), .int (zI k)])).length) Slot.unset).toArray = ls at hl ⊢
  have hl : lv_has ls 2 [(0, .ref (a 0)), (1, .int (zI k))] := hl
  refine lv_aload_n hx hb dX7_bill_0 rfl (lv_at hl 0 rfl) ?_
  refine lv_iload_n hx hb dX7_bill_1 rfl (lv_at hl 1 rfl) ?_
  refine x_callVR (As := [.int (zI k)]) (rest := []) S hK (c_X7_isMeter l D cs a σ pa sl sv pd kn ln k (by omega) (by omega)) (cwV 1 hts gX7_bill_X7_isMeter rfl rfl rfl (by decide +kernel) ⟨(Nat.le_of_ble_eq_true rfl), (Nat.le_of_ble_eq_true rfl)⟩) (x_rc hK (mAt_0 hM) rfl) hM rfl hl.1 (Nat.le_of_ble_eq_true rfl) dX7_bill_2 ⟨Nat.zero_le _, Nat.zero_le _⟩ ?_
  refine x_ifb_eq (tgt := 16) hx hb dX7_bill_5 (by decide)  (fun c_5 => ?_) (fun c_5 => ?_)
  · refine x_iconst hx hb dX7_bill_16 ?_
    exact x_iretR hx hb hr hlocks (by first | (rw [if_pos c_5]) | (rw [if_neg c_5])) rfl dX7_bill_17
  · refine lv_aload_n hx hb dX7_bill_8 rfl (lv_at hl 0 rfl) ?_
    refine lv_iload_n hx hb dX7_bill_9 rfl (lv_at hl 1 rfl) ?_
    refine x_callVR (As := [.int (zI k)]) (rest := []) S hK (c_X7_billOf l D cs a σ pa sl sv pd kn ln k (by omega)) (cwV 1 hts gX7_bill_X7_billOf rfl rfl rfl (by decide +kernel) ⟨(Nat.le_of_ble_eq_true rfl), (Nat.le_of_ble_eq_true rfl)⟩) (x_rc hK (mAt_0 hM) rfl) hM rfl hl.1 (Nat.le_of_ble_eq_true rfl) dX7_bill_10 ⟨Nat.zero_le _, Nat.zero_le _⟩ ?_
    refine lv_goto (tgt := 17) hx hb dX7_bill_13 (by decide) ?_
    exact x_iretR hx hb hr hlocks (by first | (rw [if_pos c_5]) | (rw [if_neg c_5])) rfl dX7_bill_17
set_option maxHeartbeats 4000000 in
set_option maxRecDepth 100000 in
theorem c_X7_turnsIn_bad (l : Launch) (D : va_G) (cs : Nat → ClassId) (a : Int → Nat) (σ : Int → Int) (pa : Int → Int) (sl : Int → Int) (sv : Int → Int) (pd : Int → Int) (kn : Int) (ln : Int) (k : Int) (h7 : 0 ≤ σ 7 ∧ σ 7 ≤ 7) (hk : -2147483648 ≤ k ∧ k < 2147483648) (hn : ¬ (0 ≤ k ∧ k < σ 7)) : kR D cs l yX7_turnsIn wsX7_turnsIn ({ frames := 5, cells := 0, slots := 0, locals := 118 } : Room) [.ref (a 0), .int (zI k)] (fun H => mAt D cs a σ pa sl sv pd kn ln H) (some (.int (zI (-1)))) := by
  refine Met.ofW (cc := cX7_turnsIn) (maxL := 4) (ret := (some .int)) (by decide) rfl ?_
  intro p e s m args below meth c s₁ B hml hv
  obtain ⟨rfl, hK, hM⟩ := hv
  have hx := B.exec
  have hb := B.bytes
  have hr := B.returns
  have hts := atoms_spec (ws := wsX7_turnsIn) B.pre
  have hown : s.vm.findClass RX7 = some m.cls := findClass_of_methodNamed B.named
  have hlocks := B.notSynchronized
  have S : CallFix p m c cX7_turnsIn 4 s (([.ref (a 0), .int (zI k)] : List Value)).toArray wsX7_turnsIn RX7 := ⟨hx, hb, hml, hown, hts⟩
  have hin7 : ∀ w ∈ wsX70, w ∈ wsX7_turnsIn := by decide +kernel
  have hl := lv_entry ([.ref (a 0), .int (zI k)]) (n := 4) (Nat.le_of_ble_eq_true rfl)
  rw [lg_entry_eq]
  generalize (lg_sl ([.ref (a 0), .int (zI k)]) ++ List.replicate (4 - (lg_sl ([.ref (a 0), .int (zI k)])).length) Slot.unset).toArray = ls at hl ⊢
  have hl : lv_has ls 4 [(0, .ref (a 0)), (1, .int (zI k))] := hl
  refine lv_aload_n hx hb dX7_turnsIn_0 rfl (lv_at hl 0 rfl) ?_
  refine lv_iload_n hx hb dX7_turnsIn_1 rfl (lv_at hl 1 rfl) ?_
  refine x_callVR (As := [.int (zI k)]) (rest := []) S hK (c_X7_isMeter l D cs a σ pa sl sv pd kn ln k (by omega) (by omega)) (cwV 1 hts gX7_turnsIn_X7_isMeter rfl rfl rfl (by decide +kernel) ⟨(Nat.le_of_ble_eq_true rfl), (Nat.le_of_ble_eq_true rfl)⟩) (x_rc hK (mAt_0 hM) rfl) hM rfl hl.1 (Nat.le_of_ble_eq_true rfl) dX7_turnsIn_2 ⟨Nat.zero_le _, Nat.zero_le _⟩ ?_
  refine x_ifb_ne (tgt := 10) hx hb dX7_turnsIn_5 (by decide)  (fun c_5 => ?_) (fun c_5 => ?_)
  · exact absurd c_5 hn
  · refine x_iconst hx hb dX7_turnsIn_8 ?_
    exact x_iretR hx hb hr hlocks (by first | rfl | omega) rfl dX7_turnsIn_9
set_option maxHeartbeats 4000000 in
set_option maxRecDepth 100000 in
theorem c_X7_turnsIn_ok (l : Launch) (D : va_G) (cs : Nat → ClassId) (a : Int → Nat) (σ : Int → Int) (pa : Int → Int) (sl : Int → Int) (sv : Int → Int) (pd : Int → Int) (kn : Int) (ln : Int) (k : Int) (hG : gOK σ 0) (hk : 0 ≤ k ∧ k < σ 7) (ht : σ 6 ≤ 99999) (hI : mI a) : kM D cs l yX7_turnsIn wsX7_turnsIn ({ frames := 5, cells := 0, slots := 0, locals := 118 } : Room) [.ref (a 0), .int (zI k)] (fun H => mAt D cs a σ pa sl sv pd kn ln H) (some (.int (zI (tiR k 3000 (cpN σ σ 138 138) 1)))) (fun H => mAt D cs a (tiS k 3000 (cpN σ σ 138 138)) pa sl sv pd kn ln H) (mC a) := by
  refine Met.ofW (cc := cX7_turnsIn) (maxL := 4) (ret := (some .int)) (by decide) rfl ?_
  intro p e s m args below meth c s₁ B hml hv
  obtain ⟨rfl, hK, hM⟩ := hv
  have hx := B.exec
  have hb := B.bytes
  have hr := B.returns
  have hts := atoms_spec (ws := wsX7_turnsIn) B.pre
  have hown : s.vm.findClass RX7 = some m.cls := findClass_of_methodNamed B.named
  have hlocks := B.notSynchronized
  have S : CallFix p m c cX7_turnsIn 4 s (([.ref (a 0), .int (zI k)] : List Value)).toArray wsX7_turnsIn RX7 := ⟨hx, hb, hml, hown, hts⟩
  have hin7 : ∀ w ∈ wsX70, w ∈ wsX7_turnsIn := by decide +kernel
  have hS : va_S (mC a) s.heap s.heap [] := va_S.rf
  have hl := lv_entry ([.ref (a 0), .int (zI k)]) (n := 4) (Nat.le_of_ble_eq_true rfl)
  rw [lg_entry_eq]
  generalize (lg_sl ([.ref (a 0), .int (zI k)]) ++ List.replicate (4 - (lg_sl ([.ref (a 0), .int (zI k)])).length) Slot.unset).toArray = ls at hl ⊢
  have hl : lv_has ls 4 [(0, .ref (a 0)), (1, .int (zI k))] := hl
  have h7 := hG.1.1
  refine lv_aload_n hx hb dX7_turnsIn_0 rfl (lv_at hl 0 rfl) ?_
  refine lv_iload_n hx hb dX7_turnsIn_1 rfl (lv_at hl 1 rfl) ?_
  refine x_callVR (As := [.int (zI k)]) (rest := []) S hK (c_X7_isMeter l D cs a σ pa sl sv pd kn ln k (by omega) (by omega)) (cwV 1 hts gX7_turnsIn_X7_isMeter rfl rfl rfl (by decide +kernel) ⟨(Nat.le_of_ble_eq_true rfl), (Nat.le_of_ble_eq_true rfl)⟩) (x_rc hK (mAt_0 hM) rfl) hM rfl hl.1 (Nat.le_of_ble_eq_true rfl) dX7_turnsIn_2 ⟨Nat.zero_le _, Nat.zero_le _⟩ ?_
  refine x_ifb_ne (tgt := 10) hx hb dX7_turnsIn_5 (by decide)  (fun c_5 => ?_) (fun c_5 => ?_)
  · refine lv_aload_n hx hb dX7_turnsIn_10 rfl (lv_at hl 0 rfl) ?_
    refine x_callVMn (As := []) (rest := []) S hK (c_X7_copies l D cs a σ pa sl sv pd kn ln (by omega)) (cwV 0 hts gX7_turnsIn_X7_copies rfl rfl rfl (by decide +kernel) ⟨(Nat.le_of_ble_eq_true rfl), (Nat.le_of_ble_eq_true rfl)⟩) (x_rc hK (mAt_0 hM) rfl) hM rfl hl.1 (Nat.le_of_ble_eq_true rfl) dX7_turnsIn_11 ⟨Nat.zero_le _, Nat.zero_le _⟩ hS (fun q hq => hq) (fun H locs hB hF hS => ?_)
    have hM : mAt D cs a (cpN σ σ 138 138) pa sl sv pd kn ln H := hB
    refine x_iconst hx hb dX7_turnsIn_14 ?_
    refine lv_istore_n (lv' := [(2, .int (zI 1)), (0, .ref (a 0)), (1, .int (zI k))]) hx hb dX7_turnsIn_15 rfl hl (by decide) rfl (fun ls hl => ?_)
    have lp16 : ∀ (n : Nat) (n1 : Int) (τ : Int → Int) (f0 : Nat), f0 < n → (n1 = 3001 - (f0 : Int)) → (f0 ≤ 3000) → (tiR k f0 τ n1 = tiR k 3000 (cpN σ σ 138 138) 1) → (tiS k f0 τ = tiS k 3000 (cpN σ σ 138 138)) → (gOK τ 138) → (τ 7 = σ 7) → (τ 144 = σ 6 + n1 - 1) → ∀ (H : Heap) (locs : List Loc), mAt D cs a τ pa sl sv pd kn ln H → va_S (mC a) s.heap H locs → ∀ (ls : Array Slot), lv_has ls 4 [(2, .int (zI n1)), (0, .ref (a 0)), (1, .int (zI k))] → W p l e (headSpec wsX7_turnsIn ({ frames := 5, cells := 0, slots := 0, locals := 118 } : Room)).room s m ([.ref (a 0), .int (zI k)] : List Value).toArray below meth c H locs 0 0 (MQ below (kQ (some (.int (zI (tiR k 3000 (cpN σ σ 138 138) 1)))) (fun H => mAt D cs a (tiS k 3000 (cpN σ σ 138 138)) pa sl sv pd kn ln H) (mC a)) ([.ref (a 0), .int (zI k)] : List Value).toArray s 0 0 (mC a)) (F0 m 16 ls []) := by
      intro n
      induction n with
      | zero => intro n1 τ f0 hms; exact absurd hms (Nat.not_lt_zero _)
      | succ n ih =>
        intro n1 τ f0 hms i1 i0 i2 i3 i4 i5 i6 H locs hM hS ls hl
        have hfz : f0 = 0 ∨ ∃ g, f0 = g + 1 := by cases f0 with | zero => exact Or.inl rfl | succ g => exact Or.inr ⟨g, rfl⟩
        have ih16 := ih
        clear ih
        refine lv_iload_n hx hb dX7_turnsIn_16 rfl (lv_at hl 0 rfl) ?_
        refine x_sipush hx hb dX7_turnsIn_17 (by decide +kernel) ?_
        refine x_icmp_gt (tgt := 56) hx hb dX7_turnsIn_20 (by decide) (by omega) (by omega) (fun c_20 => ?_) (fun c_20 => ?_)
        · refine x_bipush hx hb dX7_turnsIn_56 (by decide +kernel) ?_
          exact x_iretM hx hb hr hlocks (by rw [← i2, show f0 = 0 by omega]; rfl) (mAt_cong hM (by rw [← i3, show f0 = 0 by omega]; rfl) rfl rfl rfl rfl rfl rfl) hS dX7_turnsIn_58
        · have hd2 := i4.2.2 k (by omega) (by omega)
          have hpr := goesS_rng (sOK_up i4.2.1 (i := 138 + 11 + 13 * k + 5) (v := τ (138 + 11 + 13 * k + 5) + pwr τ k) (by omega)) (dOK_up hd2 (by omega)) (pwr_rng i4.1 k)
          have hpr : 0 ≤ pOneP τ 138 k ∧ pOneP τ 138 k < 100000 := hpr
          refine lv_aload_n hx hb dX7_turnsIn_23 rfl (lv_at hl 1 rfl) ?_
          refine x_sipush hx hb dX7_turnsIn_24 (by decide +kernel) ?_
          refine lv_iload_n hx hb dX7_turnsIn_27 rfl (lv_at hl 2 rfl) ?_
          refine x_callVM (As := [.int (zI 138), .int (zI k)]) (rest := []) S hK (c_X7_passesOne l D cs a τ pa sl sv pd kn ln 138 k (by omega) (by omega) (by exact i4.1) (by exact i4.2.1) (by exact hd2) (by omega)) (cwV 2 hts gX7_turnsIn_X7_passesOne rfl rfl rfl (by decide +kernel) ⟨(Nat.le_of_ble_eq_true rfl), (Nat.le_of_ble_eq_true rfl)⟩) (x_rc hK (mAt_0 hM) rfl) hM rfl hl.1 (Nat.le_of_ble_eq_true rfl) dX7_turnsIn_28 ⟨Nat.zero_le _, Nat.zero_le _⟩ hS (fun q hq => hq) (fun H locs hB hF hS => ?_)
          have hM : mAt D cs a (pOne τ 138 k) pa sl sv pd kn ln H := hB
          refine lv_istore_n (lv' := [(3, .int (zI (pOneP τ 138 k / 6000))), (2, .int (zI n1)), (0, .ref (a 0)), (1, .int (zI k))]) hx hb dX7_turnsIn_31 rfl hl (by decide) rfl (fun ls hl => ?_)
          refine lv_aload_n hx hb dX7_turnsIn_32 rfl (lv_at hl 2 rfl) ?_
          refine m_g_s S hin7 hK hM (hts (.fieldLink RX7 7 "EnergyDiscsModel" "s" "[J") (by decide +kernel)) dX7_turnsIn_33 ?_
          refine x_sipush hx hb dX7_turnsIn_36 (by decide +kernel) ?_
          refine lv_dup2_11 hx hb dX7_turnsIn_39 rfl rfl ?_
          refine m_l_s S hK hM (by omega) dX7_turnsIn_40 ?_
          refine x_lconst (v := 1) hx hb dX7_turnsIn_41 rfl ?_
          refine x_ladd hx hb dX7_turnsIn_42 ?_
          refine m_s_s S hK hM hI hS (by omega) dX7_turnsIn_43 (fun H locs hM hS => ?_)
          have hM : mAt D cs a (stp τ k) pa sl sv pd kn ln H := hM
          refine lv_iload_n hx hb dX7_turnsIn_44 rfl (lv_at hl 0 rfl) ?_
          refine x_if_le (tgt := 50) hx hb dX7_turnsIn_45 (by decide) (by omega) (fun c_45 => ?_) (fun c_45 => ?_)
          · refine x_iinc (x := n1) (lv' := [(2, .int (zI (n1 + 1))), (3, .int (zI (pOneP τ 138 k / 6000))), (0, .ref (a 0)), (1, .int (zI k))]) hx hb dX7_turnsIn_50 hl (k := 1) rfl (by decide) rfl (fun ls hl => ?_)
            refine lv_goto (tgt := 16) hx hb dX7_turnsIn_53 (by decide) ?_
            exact ih16 (n1 + 1) (stp τ k) (f0 - 1) (by omega) (by omega) (by omega) (by obtain ⟨g, hg⟩ : ∃ g, f0 = g + 1 := ⟨f0 - 1, by omega⟩; rw [← i2, hg]; exact (if_neg (by omega)).symm) (by obtain ⟨g, hg⟩ : ∃ g, f0 = g + 1 := ⟨f0 - 1, by omega⟩; rw [← i3, hg]; exact (if_neg (by omega)).symm) (by exact gOK_stp i4 (by omega) (by omega)) (by exact (stp_7 hk.1).trans i5) (by rw [stp_144 hk.1]; omega) H locs hM hS ls (lv_sub hl [0, 2, 3] rfl)
          · refine lv_iload_n hx hb dX7_turnsIn_48 rfl (lv_at hl 1 rfl) ?_
            exact x_iretM hx hb hr hlocks (by obtain ⟨g, hg⟩ : ∃ g, f0 = g + 1 := ⟨f0 - 1, by omega⟩; rw [← i2, hg]; exact (if_pos (by omega)).symm) (mAt_cong hM (by obtain ⟨g, hg⟩ : ∃ g, f0 = g + 1 := ⟨f0 - 1, by omega⟩; rw [← i3, hg]; exact (if_pos (by omega)).symm) rfl rfl rfl rfl rfl rfl) hS dX7_turnsIn_49
    exact lp16 ((3000 : Nat) + 1) 1 (cpN σ σ 138 138) 3000 (Nat.lt_succ_self _) (by omega) (by omega) (by rfl) (by rfl) (by exact gOK_beside hG) (by exact cpN_out (by omega)) (by exact (cpN_in (by omega)).trans (by show σ 6 = _; omega)) H locs hM hS ls (lv_sub hl [0, 1, 2] rfl)
  · exact absurd hk c_5
set_option maxHeartbeats 4000000 in
set_option maxRecDepth 100000 in
theorem c_X7_wouldTurn_bad (l : Launch) (D : va_G) (cs : Nat → ClassId) (a : Int → Nat) (σ : Int → Int) (pa : Int → Int) (sl : Int → Int) (sv : Int → Int) (pd : Int → Int) (kn : Int) (ln : Int) (k : Int) (w : Int) (nt : Int) (h7 : 0 ≤ σ 7 ∧ σ 7 ≤ 7) (hk : -2147483648 ≤ k ∧ k < 2147483648) (hw : -2147483648 ≤ w ∧ w < 2147483648) (hnt : -2147483648 ≤ nt ∧ nt < 2147483648) (hn : ¬ ((0 ≤ k ∧ k < σ 7) ∧ (1 ≤ w ∧ w ≤ 1440) ∧ (0 ≤ nt ∧ nt ≤ 1))) : kR D cs l yX7_wouldTurn wsX7_wouldTurn ({ frames := 5, cells := 0, slots := 0, locals := 118 } : Room) [.ref (a 0), .int (zI k), .int (zI w), .int (zI nt)] (fun H => mAt D cs a σ pa sl sv pd kn ln H) (some (.int (zI (if 0 ≤ k ∧ k < σ 7 then -2 else -1)))) := by
  refine Met.ofW (cc := cX7_wouldTurn) (maxL := 7) (ret := (some .int)) (by decide) rfl ?_
  intro p e s m args below meth c s₁ B hml hv
  obtain ⟨rfl, hK, hM⟩ := hv
  have hx := B.exec
  have hb := B.bytes
  have hr := B.returns
  have hts := atoms_spec (ws := wsX7_wouldTurn) B.pre
  have hown : s.vm.findClass RX7 = some m.cls := findClass_of_methodNamed B.named
  have hlocks := B.notSynchronized
  have S : CallFix p m c cX7_wouldTurn 7 s (([.ref (a 0), .int (zI k), .int (zI w), .int (zI nt)] : List Value)).toArray wsX7_wouldTurn RX7 := ⟨hx, hb, hml, hown, hts⟩
  have hin7 : ∀ w ∈ wsX70, w ∈ wsX7_wouldTurn := by decide +kernel
  have hl := lv_entry ([.ref (a 0), .int (zI k), .int (zI w), .int (zI nt)]) (n := 7) (Nat.le_of_ble_eq_true rfl)
  rw [lg_entry_eq]
  generalize (lg_sl ([.ref (a 0), .int (zI k), .int (zI w), .int (zI nt)]) ++ List.replicate (7 - (lg_sl ([.ref (a 0), .int (zI k), .int (zI w), .int (zI nt)])).length) Slot.unset).toArray = ls at hl ⊢
  have hl : lv_has ls 7 [(0, .ref (a 0)), (1, .int (zI k)), (2, .int (zI w)), (3, .int (zI nt))] := hl
  refine lv_aload_n hx hb dX7_wouldTurn_0 rfl (lv_at hl 0 rfl) ?_
  refine lv_iload_n hx hb dX7_wouldTurn_1 rfl (lv_at hl 1 rfl) ?_
  refine x_callVR (As := [.int (zI k)]) (rest := []) S hK (c_X7_isMeter l D cs a σ pa sl sv pd kn ln k (by omega) (by omega)) (cwV 1 hts gX7_wouldTurn_X7_isMeter rfl rfl rfl (by decide +kernel) ⟨(Nat.le_of_ble_eq_true rfl), (Nat.le_of_ble_eq_true rfl)⟩) (x_rc hK (mAt_0 hM) rfl) hM rfl hl.1 (Nat.le_of_ble_eq_true rfl) dX7_wouldTurn_2 ⟨Nat.zero_le _, Nat.zero_le _⟩ ?_
  refine x_ifb_ne (tgt := 10) hx hb dX7_wouldTurn_5 (by decide)  (fun c_5 => ?_) (fun c_5 => ?_)
  · refine lv_iload_n hx hb dX7_wouldTurn_10 rfl (lv_at hl 2 rfl) ?_
    refine x_iconst hx hb dX7_wouldTurn_11 ?_
    refine x_sipush hx hb dX7_wouldTurn_12 (by decide +kernel) ?_
    refine x_callSR (As := [.int (zI w), .int (zI 1), .int (zI 1440)]) (rest := []) S hK (c_X7_in l D cs w 1 1440 (by omega) (by omega) (by omega)) (va_cwS 3 hts gX7_wouldTurn_X7_in rfl rfl rfl (by decide +kernel) ⟨(Nat.le_of_ble_eq_true rfl), (Nat.le_of_ble_eq_true rfl)⟩) trivial rfl hl.1 (Nat.le_of_ble_eq_true rfl) dX7_wouldTurn_15 ⟨Nat.zero_le _, Nat.zero_le _⟩ ?_
    refine x_ifb_eq (tgt := 30) hx hb dX7_wouldTurn_18 (by decide)  (fun c_18 => ?_) (fun c_18 => ?_)
    · refine x_bipush hx hb dX7_wouldTurn_30 (by decide +kernel) ?_
      exact x_iretR hx hb hr hlocks (by first | (rw [if_pos c_5]) | (rw [if_neg c_5])) rfl dX7_wouldTurn_32
    · refine lv_iload_n hx hb dX7_wouldTurn_21 rfl (lv_at hl 3 rfl) ?_
      refine x_iconst hx hb dX7_wouldTurn_22 ?_
      refine x_iconst hx hb dX7_wouldTurn_23 ?_
      refine x_callSR (As := [.int (zI nt), .int (zI 0), .int (zI 1)]) (rest := []) S hK (c_X7_in l D cs nt 0 1 (by omega) (by omega) (by omega)) (va_cwS 3 hts gX7_wouldTurn_X7_in rfl rfl rfl (by decide +kernel) ⟨(Nat.le_of_ble_eq_true rfl), (Nat.le_of_ble_eq_true rfl)⟩) trivial rfl hl.1 (Nat.le_of_ble_eq_true rfl) dX7_wouldTurn_24 ⟨Nat.zero_le _, Nat.zero_le _⟩ ?_
      refine x_ifb_ne (tgt := 33) hx hb dX7_wouldTurn_27 (by decide)  (fun c_27 => ?_) (fun c_27 => ?_)
      · exact absurd ⟨c_5, c_18, c_27⟩ hn
      · refine x_bipush hx hb dX7_wouldTurn_30 (by decide +kernel) ?_
        exact x_iretR hx hb hr hlocks (by first | (rw [if_pos c_5]) | (rw [if_neg c_5])) rfl dX7_wouldTurn_32
  · refine x_iconst hx hb dX7_wouldTurn_8 ?_
    exact x_iretR hx hb hr hlocks (by first | (rw [if_pos c_5]) | (rw [if_neg c_5])) rfl dX7_wouldTurn_9
set_option maxHeartbeats 4000000 in
set_option maxRecDepth 100000 in
theorem c_X7_wouldTurn_ok (l : Launch) (D : va_G) (cs : Nat → ClassId) (a : Int → Nat) (σ : Int → Int) (pa : Int → Int) (sl : Int → Int) (sv : Int → Int) (pd : Int → Int) (kn : Int) (ln : Int) (k : Int) (w : Int) (nt : Int) (hG : gOK σ 0) (hk : 0 ≤ k ∧ k < σ 7) (hw : 1 ≤ w ∧ w ≤ 1440) (hnt : 0 ≤ nt ∧ nt ≤ 1) (ht : σ 6 ≤ 99999) (hI : mI a) : kM D cs l yX7_wouldTurn wsX7_wouldTurn ({ frames := 5, cells := 0, slots := 0, locals := 118 } : Room) [.ref (a 0), .int (zI k), .int (zI w), .int (zI nt)] (fun H => mAt D cs a σ pa sl sv pd kn ln H) (some (.int (zI (wtS (cpN σ σ 138 138) k w.toNat (138 + (0 + 11 + 13 * k + (if nt = 1 then 4 else 3))) - σ (0 + 11 + 13 * k + (if nt = 1 then 4 else 3)))))) (fun H => mAt D cs a (wtS (cpN σ σ 138 138) k w.toNat) pa sl sv pd kn ln H) (mC a) := by
  refine Met.ofW (cc := cX7_wouldTurn) (maxL := 7) (ret := (some .int)) (by decide) rfl ?_
  intro p e s m args below meth c s₁ B hml hv
  obtain ⟨rfl, hK, hM⟩ := hv
  have hx := B.exec
  have hb := B.bytes
  have hr := B.returns
  have hts := atoms_spec (ws := wsX7_wouldTurn) B.pre
  have hown : s.vm.findClass RX7 = some m.cls := findClass_of_methodNamed B.named
  have hlocks := B.notSynchronized
  have S : CallFix p m c cX7_wouldTurn 7 s (([.ref (a 0), .int (zI k), .int (zI w), .int (zI nt)] : List Value)).toArray wsX7_wouldTurn RX7 := ⟨hx, hb, hml, hown, hts⟩
  have hin7 : ∀ w ∈ wsX70, w ∈ wsX7_wouldTurn := by decide +kernel
  have hS : va_S (mC a) s.heap s.heap [] := va_S.rf
  have hl := lv_entry ([.ref (a 0), .int (zI k), .int (zI w), .int (zI nt)]) (n := 7) (Nat.le_of_ble_eq_true rfl)
  rw [lg_entry_eq]
  generalize (lg_sl ([.ref (a 0), .int (zI k), .int (zI w), .int (zI nt)]) ++ List.replicate (7 - (lg_sl ([.ref (a 0), .int (zI k), .int (zI w), .int (zI nt)])).length) Slot.unset).toArray = ls at hl ⊢
  have hl : lv_has ls 7 [(0, .ref (a 0)), (1, .int (zI k)), (2, .int (zI w)), (3, .int (zI nt))] := hl
  have h7 := hG.1.1
  refine lv_aload_n hx hb dX7_wouldTurn_0 rfl (lv_at hl 0 rfl) ?_
  refine lv_iload_n hx hb dX7_wouldTurn_1 rfl (lv_at hl 1 rfl) ?_
  refine x_callVR (As := [.int (zI k)]) (rest := []) S hK (c_X7_isMeter l D cs a σ pa sl sv pd kn ln k (by omega) (by omega)) (cwV 1 hts gX7_wouldTurn_X7_isMeter rfl rfl rfl (by decide +kernel) ⟨(Nat.le_of_ble_eq_true rfl), (Nat.le_of_ble_eq_true rfl)⟩) (x_rc hK (mAt_0 hM) rfl) hM rfl hl.1 (Nat.le_of_ble_eq_true rfl) dX7_wouldTurn_2 ⟨Nat.zero_le _, Nat.zero_le _⟩ ?_
  refine x_ifb_ne (tgt := 10) hx hb dX7_wouldTurn_5 (by decide)  (fun c_5 => ?_) (fun c_5 => ?_)
  · refine lv_iload_n hx hb dX7_wouldTurn_10 rfl (lv_at hl 2 rfl) ?_
    refine x_iconst hx hb dX7_wouldTurn_11 ?_
    refine x_sipush hx hb dX7_wouldTurn_12 (by decide +kernel) ?_
    refine x_callSR (As := [.int (zI w), .int (zI 1), .int (zI 1440)]) (rest := []) S hK (c_X7_in l D cs w 1 1440 (by omega) (by omega) (by omega)) (va_cwS 3 hts gX7_wouldTurn_X7_in rfl rfl rfl (by decide +kernel) ⟨(Nat.le_of_ble_eq_true rfl), (Nat.le_of_ble_eq_true rfl)⟩) trivial rfl hl.1 (Nat.le_of_ble_eq_true rfl) dX7_wouldTurn_15 ⟨Nat.zero_le _, Nat.zero_le _⟩ ?_
    refine x_ifb_eq (tgt := 30) hx hb dX7_wouldTurn_18 (by decide)  (fun c_18 => ?_) (fun c_18 => ?_)
    · exact absurd hw c_18
    · refine lv_iload_n hx hb dX7_wouldTurn_21 rfl (lv_at hl 3 rfl) ?_
      refine x_iconst hx hb dX7_wouldTurn_22 ?_
      refine x_iconst hx hb dX7_wouldTurn_23 ?_
      refine x_callSR (As := [.int (zI nt), .int (zI 0), .int (zI 1)]) (rest := []) S hK (c_X7_in l D cs nt 0 1 (by omega) (by omega) (by omega)) (va_cwS 3 hts gX7_wouldTurn_X7_in rfl rfl rfl (by decide +kernel) ⟨(Nat.le_of_ble_eq_true rfl), (Nat.le_of_ble_eq_true rfl)⟩) trivial rfl hl.1 (Nat.le_of_ble_eq_true rfl) dX7_wouldTurn_24 ⟨Nat.zero_le _, Nat.zero_le _⟩ ?_
      refine x_ifb_ne (tgt := 33) hx hb dX7_wouldTurn_27 (by decide)  (fun c_27 => ?_) (fun c_27 => ?_)
      · refine lv_aload_n hx hb dX7_wouldTurn_33 rfl (lv_at hl 0 rfl) ?_
        refine x_callVMn (As := []) (rest := []) S hK (c_X7_copies l D cs a σ pa sl sv pd kn ln (by omega)) (cwV 0 hts gX7_wouldTurn_X7_copies rfl rfl rfl (by decide +kernel) ⟨(Nat.le_of_ble_eq_true rfl), (Nat.le_of_ble_eq_true rfl)⟩) (x_rc hK (mAt_0 hM) rfl) hM rfl hl.1 (Nat.le_of_ble_eq_true rfl) dX7_wouldTurn_34 ⟨Nat.zero_le _, Nat.zero_le _⟩ hS (fun q hq => hq) (fun H locs hB hF hS => ?_)
        have hM : mAt D cs a (cpN σ σ 138 138) pa sl sv pd kn ln H := hB
        refine x_iconst hx hb dX7_wouldTurn_37 ?_
        refine lv_iload_n hx hb dX7_wouldTurn_38 rfl (lv_at hl 1 rfl) ?_
        refine x_callSR (As := [.int (zI 0), .int (zI k)]) (rest := []) S hK (c_X7_at l D cs 0 k ) (va_cwS 2 hts gX7_wouldTurn_X7_at rfl rfl rfl (by decide +kernel) ⟨(Nat.le_of_ble_eq_true rfl), (Nat.le_of_ble_eq_true rfl)⟩) trivial rfl hl.1 (Nat.le_of_ble_eq_true rfl) dX7_wouldTurn_39 ⟨Nat.zero_le _, Nat.zero_le _⟩ ?_
        refine lv_iload_n hx hb dX7_wouldTurn_42 rfl (lv_at hl 3 rfl) ?_
        refine x_iconst hx hb dX7_wouldTurn_43 ?_
        refine x_icmp_ne (tgt := 51) hx hb dX7_wouldTurn_44 (by decide) (by omega) (by omega) (fun c_44 => ?_) (fun c_44 => ?_)
        · refine x_iconst hx hb dX7_wouldTurn_51 ?_
          refine x_iadd hx hb dX7_wouldTurn_52 ?_
          refine lv_istore (lv' := [(4, .int (zI ((0 + 11 + 13 * k) + 3))), (0, .ref (a 0)), (1, .int (zI k)), (2, .int (zI w)), (3, .int (zI nt))]) hx hb dX7_wouldTurn_53 hl (by decide) rfl (fun ls hl => ?_)
          refine x_iconst hx hb dX7_wouldTurn_55 ?_
          refine lv_istore (lv' := [(5, .int (zI 0)), (4, .int (zI ((0 + 11 + 13 * k) + 3))), (0, .ref (a 0)), (1, .int (zI k)), (2, .int (zI w)), (3, .int (zI nt))]) hx hb dX7_wouldTurn_56 hl (by decide) rfl (fun ls hl => ?_)
          have lp58 : ∀ (n : Nat) (n1 : Int) (τ : Int → Int) (n0 : Nat), (w - n1).toNat < n → (n1 = (n0 : Int)) → (n1 ≤ w) → (τ = wtS (cpN σ σ 138 138) k n0) → (gOK τ 138) → (τ 7 = σ 7) → (τ 144 = σ 6 + n1) → (∀ i : Int, i < 138 → τ i = σ i) → ∀ (H : Heap) (locs : List Loc), mAt D cs a τ pa sl sv pd kn ln H → va_S (mC a) s.heap H locs → ∀ (ls : Array Slot), lv_has ls 7 [(5, .int (zI n1)), (4, .int (zI ((0 + 11 + 13 * k) + 3))), (0, .ref (a 0)), (1, .int (zI k)), (2, .int (zI w)), (3, .int (zI nt))] → W p l e (headSpec wsX7_wouldTurn ({ frames := 5, cells := 0, slots := 0, locals := 118 } : Room)).room s m ([.ref (a 0), .int (zI k), .int (zI w), .int (zI nt)] : List Value).toArray below meth c H locs 0 0 (MQ below (kQ (some (.int (zI (wtS (cpN σ σ 138 138) k w.toNat (138 + (0 + 11 + 13 * k + (if nt = 1 then 4 else 3))) - σ (0 + 11 + 13 * k + (if nt = 1 then 4 else 3)))))) (fun H => mAt D cs a (wtS (cpN σ σ 138 138) k w.toNat) pa sl sv pd kn ln H) (mC a)) ([.ref (a 0), .int (zI k), .int (zI w), .int (zI nt)] : List Value).toArray s 0 0 (mC a)) (F0 m 58 ls []) := by
            intro n
            induction n with
            | zero => intro n1 τ n0 hms; exact absurd hms (Nat.not_lt_zero _)
            | succ n ih =>
              intro n1 τ n0 hms i1 i0 i3 i4 i5 i6 i7 H locs hM hS ls hl
              have ih58 := ih
              clear ih
              refine lv_iload hx hb dX7_wouldTurn_58 (lv_at hl 0 rfl) ?_
              refine lv_iload_n hx hb dX7_wouldTurn_60 rfl (lv_at hl 4 rfl) ?_
              refine x_icmp_ge (tgt := 92) hx hb dX7_wouldTurn_61 (by decide) (by omega) (by omega) (fun c_61 => ?_) (fun c_61 => ?_)
              · refine lv_aload_n hx hb dX7_wouldTurn_92 rfl (lv_at hl 2 rfl) ?_
                refine m_g_s S hin7 hK hM (hts (.fieldLink RX7 7 "EnergyDiscsModel" "s" "[J") (by decide +kernel)) dX7_wouldTurn_93 ?_
                refine x_sipush hx hb dX7_wouldTurn_96 (by decide +kernel) ?_
                refine lv_iload hx hb dX7_wouldTurn_99 (lv_at hl 1 rfl) ?_
                refine x_iadd hx hb dX7_wouldTurn_101 ?_
                refine m_l_s S hK hM (by omega) dX7_wouldTurn_102 ?_
                refine lv_aload_n hx hb dX7_wouldTurn_103 rfl (lv_at hl 2 rfl) ?_
                refine m_g_s S hin7 hK hM (hts (.fieldLink RX7 7 "EnergyDiscsModel" "s" "[J") (by decide +kernel)) dX7_wouldTurn_104 ?_
                refine lv_iload hx hb dX7_wouldTurn_107 (lv_at hl 1 rfl) ?_
                refine m_l_s S hK hM (by omega) dX7_wouldTurn_109 ?_
                refine x_lsub hx hb dX7_wouldTurn_110 ?_
                refine x_l2i hx hb dX7_wouldTurn_111 ?_
                exact x_iretM hx hb hr hlocks (by first | (rw [if_pos c_44, i7 (0 + 11 + 13 * k + 4) (by omega), i3, show w.toNat = n0 by omega]) | (rw [if_neg c_44, i7 (0 + 11 + 13 * k + 3) (by omega), i3, show w.toNat = n0 by omega])) (mAt_cong hM (by rw [i3, show w.toNat = n0 by omega]) rfl rfl rfl rfl rfl rfl) hS dX7_wouldTurn_112
              · have hd2 := i4.2.2 k (by omega) (by omega)
                refine lv_aload_n hx hb dX7_wouldTurn_64 rfl (lv_at hl 2 rfl) ?_
                refine x_sipush hx hb dX7_wouldTurn_65 (by decide +kernel) ?_
                refine lv_iload_n hx hb dX7_wouldTurn_68 rfl (lv_at hl 3 rfl) ?_
                refine x_callVM (As := [.int (zI 138), .int (zI k)]) (rest := []) S hK (c_X7_passesOne l D cs a τ pa sl sv pd kn ln 138 k (by omega) (by omega) (by exact i4.1) (by exact i4.2.1) (by exact hd2) (by omega)) (cwV 2 hts gX7_wouldTurn_X7_passesOne rfl rfl rfl (by decide +kernel) ⟨(Nat.le_of_ble_eq_true rfl), (Nat.le_of_ble_eq_true rfl)⟩) (x_rc hK (mAt_0 hM) rfl) hM rfl hl.1 (Nat.le_of_ble_eq_true rfl) dX7_wouldTurn_69 ⟨Nat.zero_le _, Nat.zero_le _⟩ hS (fun q hq => hq) (fun H locs hB hF hS => ?_)
                have hM : mAt D cs a (pOne τ 138 k) pa sl sv pd kn ln H := hB
                refine lv_istore (lv' := [(6, .int (zI (pOneP τ 138 k / 6000))), (5, .int (zI n1)), (4, .int (zI ((0 + 11 + 13 * k) + 3))), (0, .ref (a 0)), (1, .int (zI k)), (2, .int (zI w)), (3, .int (zI nt))]) hx hb dX7_wouldTurn_72 hl (by decide) rfl (fun ls hl => ?_)
                refine lv_aload_n hx hb dX7_wouldTurn_74 rfl (lv_at hl 3 rfl) ?_
                refine m_g_s S hin7 hK hM (hts (.fieldLink RX7 7 "EnergyDiscsModel" "s" "[J") (by decide +kernel)) dX7_wouldTurn_75 ?_
                refine x_sipush hx hb dX7_wouldTurn_78 (by decide +kernel) ?_
                refine lv_dup2_11 hx hb dX7_wouldTurn_81 rfl rfl ?_
                refine m_l_s S hK hM (by omega) dX7_wouldTurn_82 ?_
                refine x_lconst (v := 1) hx hb dX7_wouldTurn_83 rfl ?_
                refine x_ladd hx hb dX7_wouldTurn_84 ?_
                refine m_s_s S hK hM hI hS (by omega) dX7_wouldTurn_85 (fun H locs hM hS => ?_)
                have hM : mAt D cs a (stp τ k) pa sl sv pd kn ln H := hM
                refine x_iinc (x := n1) (lv' := [(5, .int (zI (n1 + 1))), (6, .int (zI (pOneP τ 138 k / 6000))), (4, .int (zI ((0 + 11 + 13 * k) + 3))), (0, .ref (a 0)), (1, .int (zI k)), (2, .int (zI w)), (3, .int (zI nt))]) hx hb dX7_wouldTurn_86 hl (k := 1) rfl (by decide) rfl (fun ls hl => ?_)
                refine lv_goto (tgt := 58) hx hb dX7_wouldTurn_89 (by decide) ?_
                exact ih58 (n1 + 1) (stp τ k) (n0 + 1) (by omega) (by omega) (by omega) (by rw [i3]; rfl) (by exact gOK_stp i4 (by omega) (by omega)) (by exact (stp_7 hk.1).trans i5) (by rw [stp_144 hk.1]; omega) (by exact fun i hi => (stp_low hk.1 hi).trans (i7 i hi)) H locs hM hS ls (lv_sub hl [0, 2, 3, 4, 5, 6] rfl)
          exact lp58 ((w - (0 : Int)).toNat + 1) 0 (cpN σ σ 138 138) 0 (Nat.lt_succ_self _) (by omega) (by omega) (by rfl) (by exact gOK_beside hG) (by exact cpN_out (by omega)) (by exact (cpN_in (by omega)).trans (by show σ 6 = _; omega)) (by exact fun i hi => cpN_out (by omega)) H locs hM hS ls (lv_sub hl [0, 1, 2, 3, 4, 5] rfl)
        · refine x_iconst hx hb dX7_wouldTurn_47 ?_
          refine lv_goto (tgt := 52) hx hb dX7_wouldTurn_48 (by decide) ?_
          refine x_iadd hx hb dX7_wouldTurn_52 ?_
          refine lv_istore (lv' := [(4, .int (zI ((0 + 11 + 13 * k) + 4))), (0, .ref (a 0)), (1, .int (zI k)), (2, .int (zI w)), (3, .int (zI nt))]) hx hb dX7_wouldTurn_53 hl (by decide) rfl (fun ls hl => ?_)
          refine x_iconst hx hb dX7_wouldTurn_55 ?_
          refine lv_istore (lv' := [(5, .int (zI 0)), (4, .int (zI ((0 + 11 + 13 * k) + 4))), (0, .ref (a 0)), (1, .int (zI k)), (2, .int (zI w)), (3, .int (zI nt))]) hx hb dX7_wouldTurn_56 hl (by decide) rfl (fun ls hl => ?_)
          have lp58 : ∀ (n : Nat) (n1 : Int) (τ : Int → Int) (n0 : Nat), (w - n1).toNat < n → (n1 = (n0 : Int)) → (n1 ≤ w) → (τ = wtS (cpN σ σ 138 138) k n0) → (gOK τ 138) → (τ 7 = σ 7) → (τ 144 = σ 6 + n1) → (∀ i : Int, i < 138 → τ i = σ i) → ∀ (H : Heap) (locs : List Loc), mAt D cs a τ pa sl sv pd kn ln H → va_S (mC a) s.heap H locs → ∀ (ls : Array Slot), lv_has ls 7 [(5, .int (zI n1)), (4, .int (zI ((0 + 11 + 13 * k) + 4))), (0, .ref (a 0)), (1, .int (zI k)), (2, .int (zI w)), (3, .int (zI nt))] → W p l e (headSpec wsX7_wouldTurn ({ frames := 5, cells := 0, slots := 0, locals := 118 } : Room)).room s m ([.ref (a 0), .int (zI k), .int (zI w), .int (zI nt)] : List Value).toArray below meth c H locs 0 0 (MQ below (kQ (some (.int (zI (wtS (cpN σ σ 138 138) k w.toNat (138 + (0 + 11 + 13 * k + (if nt = 1 then 4 else 3))) - σ (0 + 11 + 13 * k + (if nt = 1 then 4 else 3)))))) (fun H => mAt D cs a (wtS (cpN σ σ 138 138) k w.toNat) pa sl sv pd kn ln H) (mC a)) ([.ref (a 0), .int (zI k), .int (zI w), .int (zI nt)] : List Value).toArray s 0 0 (mC a)) (F0 m 58 ls []) := by
            intro n
            induction n with
            | zero => intro n1 τ n0 hms; exact absurd hms (Nat.not_lt_zero _)
            | succ n ih =>
              intro n1 τ n0 hms i1 i0 i3 i4 i5 i6 i7 H locs hM hS ls hl
              have ih58 := ih
              clear ih
              refine lv_iload hx hb dX7_wouldTurn_58 (lv_at hl 0 rfl) ?_
              refine lv_iload_n hx hb dX7_wouldTurn_60 rfl (lv_at hl 4 rfl) ?_
              refine x_icmp_ge (tgt := 92) hx hb dX7_wouldTurn_61 (by decide) (by omega) (by omega) (fun c_61 => ?_) (fun c_61 => ?_)
              · refine lv_aload_n hx hb dX7_wouldTurn_92 rfl (lv_at hl 2 rfl) ?_
                refine m_g_s S hin7 hK hM (hts (.fieldLink RX7 7 "EnergyDiscsModel" "s" "[J") (by decide +kernel)) dX7_wouldTurn_93 ?_
                refine x_sipush hx hb dX7_wouldTurn_96 (by decide +kernel) ?_
                refine lv_iload hx hb dX7_wouldTurn_99 (lv_at hl 1 rfl) ?_
                refine x_iadd hx hb dX7_wouldTurn_101 ?_
                refine m_l_s S hK hM (by omega) dX7_wouldTurn_102 ?_
                refine lv_aload_n hx hb dX7_wouldTurn_103 rfl (lv_at hl 2 rfl) ?_
                refine m_g_s S hin7 hK hM (hts (.fieldLink RX7 7 "EnergyDiscsModel" "s" "[J") (by decide +kernel)) dX7_wouldTurn_104 ?_
                refine lv_iload hx hb dX7_wouldTurn_107 (lv_at hl 1 rfl) ?_
                refine m_l_s S hK hM (by omega) dX7_wouldTurn_109 ?_
                refine x_lsub hx hb dX7_wouldTurn_110 ?_
                refine x_l2i hx hb dX7_wouldTurn_111 ?_
                exact x_iretM hx hb hr hlocks (by first | (rw [if_pos c_44, i7 (0 + 11 + 13 * k + 4) (by omega), i3, show w.toNat = n0 by omega]) | (rw [if_neg c_44, i7 (0 + 11 + 13 * k + 3) (by omega), i3, show w.toNat = n0 by omega])) (mAt_cong hM (by rw [i3, show w.toNat = n0 by omega]) rfl rfl rfl rfl rfl rfl) hS dX7_wouldTurn_112
              · have hd2 := i4.2.2 k (by omega) (by omega)
                refine lv_aload_n hx hb dX7_wouldTurn_64 rfl (lv_at hl 2 rfl) ?_
                refine x_sipush hx hb dX7_wouldTurn_65 (by decide +kernel) ?_
                refine lv_iload_n hx hb dX7_wouldTurn_68 rfl (lv_at hl 3 rfl) ?_
                refine x_callVM (As := [.int (zI 138), .int (zI k)]) (rest := []) S hK (c_X7_passesOne l D cs a τ pa sl sv pd kn ln 138 k (by omega) (by omega) (by exact i4.1) (by exact i4.2.1) (by exact hd2) (by omega)) (cwV 2 hts gX7_wouldTurn_X7_passesOne rfl rfl rfl (by decide +kernel) ⟨(Nat.le_of_ble_eq_true rfl), (Nat.le_of_ble_eq_true rfl)⟩) (x_rc hK (mAt_0 hM) rfl) hM rfl hl.1 (Nat.le_of_ble_eq_true rfl) dX7_wouldTurn_69 ⟨Nat.zero_le _, Nat.zero_le _⟩ hS (fun q hq => hq) (fun H locs hB hF hS => ?_)
                have hM : mAt D cs a (pOne τ 138 k) pa sl sv pd kn ln H := hB
                refine lv_istore (lv' := [(6, .int (zI (pOneP τ 138 k / 6000))), (5, .int (zI n1)), (4, .int (zI ((0 + 11 + 13 * k) + 4))), (0, .ref (a 0)), (1, .int (zI k)), (2, .int (zI w)), (3, .int (zI nt))]) hx hb dX7_wouldTurn_72 hl (by decide) rfl (fun ls hl => ?_)
                refine lv_aload_n hx hb dX7_wouldTurn_74 rfl (lv_at hl 3 rfl) ?_
                refine m_g_s S hin7 hK hM (hts (.fieldLink RX7 7 "EnergyDiscsModel" "s" "[J") (by decide +kernel)) dX7_wouldTurn_75 ?_
                refine x_sipush hx hb dX7_wouldTurn_78 (by decide +kernel) ?_
                refine lv_dup2_11 hx hb dX7_wouldTurn_81 rfl rfl ?_
                refine m_l_s S hK hM (by omega) dX7_wouldTurn_82 ?_
                refine x_lconst (v := 1) hx hb dX7_wouldTurn_83 rfl ?_
                refine x_ladd hx hb dX7_wouldTurn_84 ?_
                refine m_s_s S hK hM hI hS (by omega) dX7_wouldTurn_85 (fun H locs hM hS => ?_)
                have hM : mAt D cs a (stp τ k) pa sl sv pd kn ln H := hM
                refine x_iinc (x := n1) (lv' := [(5, .int (zI (n1 + 1))), (6, .int (zI (pOneP τ 138 k / 6000))), (4, .int (zI ((0 + 11 + 13 * k) + 4))), (0, .ref (a 0)), (1, .int (zI k)), (2, .int (zI w)), (3, .int (zI nt))]) hx hb dX7_wouldTurn_86 hl (k := 1) rfl (by decide) rfl (fun ls hl => ?_)
                refine lv_goto (tgt := 58) hx hb dX7_wouldTurn_89 (by decide) ?_
                exact ih58 (n1 + 1) (stp τ k) (n0 + 1) (by omega) (by omega) (by omega) (by rw [i3]; rfl) (by exact gOK_stp i4 (by omega) (by omega)) (by exact (stp_7 hk.1).trans i5) (by rw [stp_144 hk.1]; omega) (by exact fun i hi => (stp_low hk.1 hi).trans (i7 i hi)) H locs hM hS ls (lv_sub hl [0, 2, 3, 4, 5, 6] rfl)
          exact lp58 ((w - (0 : Int)).toNat + 1) 0 (cpN σ σ 138 138) 0 (Nat.lt_succ_self _) (by omega) (by omega) (by rfl) (by exact gOK_beside hG) (by exact cpN_out (by omega)) (by exact (cpN_in (by omega)).trans (by show σ 6 = _; omega)) (by exact fun i hi => cpN_out (by omega)) H locs hM hS ls (lv_sub hl [0, 1, 2, 3, 4, 5] rfl)
      · exact absurd hnt c_27
  · exact absurd hk c_5
set_option maxHeartbeats 4000000 in
set_option maxRecDepth 100000 in
theorem c_X7_worst (l : Launch) (D : va_G) (cs : Nat → ClassId) (a : Int → Nat) (σ : Int → Int) (pa : Int → Int) (sl : Int → Int) (sv : Int → Int) (pd : Int → Int) (kn : Int) (ln : Int) (h7 : 0 ≤ σ 7 ∧ σ 7 ≤ 7) (hm : ∀ k : Int, 0 ≤ k → k < σ 7 → mOK σ k) : kR D cs l yX7_worst wsX7_worst ({ frames := 4, cells := 0, slots := 0, locals := 85 } : Room) [.ref (a 0)] (fun H => mAt D cs a σ pa sl sv pd kn ln H) (some (.int (zI (wst σ (σ 7).toNat)))) := by
  refine Met.ofW (cc := cX7_worst) (maxL := 3) (ret := (some .int)) (by decide) rfl ?_
  intro p e s m args below meth c s₁ B hml hv
  obtain ⟨rfl, hK, hM⟩ := hv
  have hx := B.exec
  have hb := B.bytes
  have hr := B.returns
  have hts := atoms_spec (ws := wsX7_worst) B.pre
  have hown : s.vm.findClass RX7 = some m.cls := findClass_of_methodNamed B.named
  have hlocks := B.notSynchronized
  have S : CallFix p m c cX7_worst 3 s (([.ref (a 0)] : List Value)).toArray wsX7_worst RX7 := ⟨hx, hb, hml, hown, hts⟩
  have hl := lv_entry ([.ref (a 0)]) (n := 3) (Nat.le_of_ble_eq_true rfl)
  rw [lg_entry_eq]
  generalize (lg_sl ([.ref (a 0)]) ++ List.replicate (3 - (lg_sl ([.ref (a 0)])).length) Slot.unset).toArray = ls at hl ⊢
  have hl : lv_has ls 3 [(0, .ref (a 0))] := hl
  refine x_bipush hx hb dX7_worst_0 (by decide +kernel) ?_
  refine lv_istore_n (lv' := [(1, .int (zI ((-6)))), (0, .ref (a 0))]) hx hb dX7_worst_2 rfl hl (by decide) rfl (fun ls hl => ?_)
  refine x_iconst hx hb dX7_worst_3 ?_
  refine lv_istore_n (lv' := [(2, .int (zI 0)), (1, .int (zI ((-6)))), (0, .ref (a 0))]) hx hb dX7_worst_4 rfl hl (by decide) rfl (fun ls hl => ?_)
  have lp5 : ∀ (n : Nat) (j : Int) (b : Int) (n0 : Nat), (σ 7 - j).toNat < n → (0 ≤ j ∧ j ≤ σ 7) → (j = (n0 : Int)) → (b = wst σ n0) → ((b = -6 ∧ j = 0) ∨ (0 ≤ b ∧ b < j)) → ∀ (ls : Array Slot), lv_has ls 3 [(2, .int (zI j)), (1, .int (zI b)), (0, .ref (a 0))] → W p l e (headSpec wsX7_worst ({ frames := 4, cells := 0, slots := 0, locals := 85 } : Room)).room s m ([.ref (a 0)] : List Value).toArray below meth c s.heap [] 0 0 (MQ below (kS (some (.int (zI (wst σ (σ 7).toNat))))) ([.ref (a 0)] : List Value).toArray s 0 0 (fun _ => False)) (F0 m 5 ls []) := by
    intro n
    induction n with
    | zero => intro j b n0 hms; exact absurd hms (Nat.not_lt_zero _)
    | succ n ih =>
      intro j b n0 hms hj hn ha hb0 ls hl
      have ih5 := ih
      clear ih
      refine lv_iload_n hx hb dX7_worst_5 rfl (lv_at hl 0 rfl) ?_
      refine lv_aload_n hx hb dX7_worst_6 rfl (lv_at hl 2 rfl) ?_
      refine x_bipush hx hb dX7_worst_7 (by decide +kernel) ?_
      refine x_callVR (As := [.int (zI 7)]) (rest := [.int (zI j)]) S hK (c_X7_num l D cs a σ pa sl sv pd kn ln 7 (by omega)) (cwV 1 hts gX7_worst_X7_num rfl rfl rfl (by decide +kernel) ⟨(Nat.le_of_ble_eq_true rfl), (Nat.le_of_ble_eq_true rfl)⟩) (x_rc hK (mAt_0 hM) rfl) hM rfl hl.1 (Nat.le_of_ble_eq_true rfl) dX7_worst_9 ⟨Nat.zero_le _, Nat.zero_le _⟩ ?_
      refine x_icmp_ge (tgt := 47) hx hb dX7_worst_12 (by decide) (by omega) (by omega) (fun c_12 => ?_) (fun c_12 => ?_)
      · refine lv_iload_n hx hb dX7_worst_47 rfl (lv_at hl 1 rfl) ?_
        exact x_iretR hx hb hr hlocks (by rw [ha, show (σ 7).toNat = n0 by omega]) rfl dX7_worst_48
      · refine lv_iload_n hx hb dX7_worst_15 rfl (lv_at hl 1 rfl) ?_
        refine x_bipush hx hb dX7_worst_16 (by decide +kernel) ?_
        refine x_icmp_eq (tgt := 35) hx hb dX7_worst_18 (by decide) (by omega) (by omega) (fun c_18 => ?_) (fun c_18 => ?_)
        · refine lv_iload_n hx hb dX7_worst_35 rfl (lv_at hl 0 rfl) ?_
          refine lv_goto (tgt := 40) hx hb dX7_worst_36 (by decide) ?_
          refine lv_istore_n (lv' := [(1, .int (zI j)), (2, .int (zI j)), (0, .ref (a 0))]) hx hb dX7_worst_40 rfl hl (by decide) rfl (fun ls hl => ?_)
          refine x_iinc (x := j) (lv' := [(2, .int (zI (j + 1))), (1, .int (zI j)), (0, .ref (a 0))]) hx hb dX7_worst_41 hl (k := 1) rfl (by decide) rfl (fun ls hl => ?_)
          refine lv_goto (tgt := 5) hx hb dX7_worst_44 (by decide) ?_
          exact ih5 (j + 1) j (n0 + 1) (by omega) (by omega) (by omega) (by rw [hn] at *; show _ = if wst σ n0 = -6 ∨ msS σ (wst σ n0) < msS σ n0 then (n0 : Int) else wst σ n0; rw [← ha]; first | rw [if_pos (Or.inl c_18)] | rw [if_pos (Or.inr (by omega))] | (rw [if_neg (by omega)])) (by omega) ls (lv_sub hl [0, 1, 2] rfl)
        · have hm1 := hm j (by omega) (by omega)
          have hm2 := hm b (by omega) (by omega)
          have hr1 := msS_rng hm1
          have hr2 := msS_rng hm2
          refine lv_aload_n hx hb dX7_worst_21 rfl (lv_at hl 2 rfl) ?_
          refine lv_iload_n hx hb dX7_worst_22 rfl (lv_at hl 0 rfl) ?_
          refine x_callVR (As := [.int (zI j)]) (rest := []) S hK (c_X7_misses_ok l D cs a σ pa sl sv pd kn ln j (by omega) (by omega) (by exact hm1)) (cwV 1 hts gX7_worst_X7_misses rfl rfl rfl (by decide +kernel) ⟨(Nat.le_of_ble_eq_true rfl), (Nat.le_of_ble_eq_true rfl)⟩) (x_rc hK (mAt_0 hM) rfl) hM rfl hl.1 (Nat.le_of_ble_eq_true rfl) dX7_worst_23 ⟨Nat.zero_le _, Nat.zero_le _⟩ ?_
          refine lv_aload_n hx hb dX7_worst_26 rfl (lv_at hl 2 rfl) ?_
          refine lv_iload_n hx hb dX7_worst_27 rfl (lv_at hl 1 rfl) ?_
          refine x_callVR (As := [.int (zI b)]) (rest := [.long (zL (msS σ j))]) S hK (c_X7_misses_ok l D cs a σ pa sl sv pd kn ln b (by omega) (by omega) (by exact hm2)) (cwV 1 hts gX7_worst_X7_misses rfl rfl rfl (by decide +kernel) ⟨(Nat.le_of_ble_eq_true rfl), (Nat.le_of_ble_eq_true rfl)⟩) (x_rc hK (mAt_0 hM) rfl) hM rfl hl.1 (Nat.le_of_ble_eq_true rfl) dX7_worst_28 ⟨Nat.zero_le _, Nat.zero_le _⟩ ?_
          refine x_lcmp_le (tgt := 39) hx hb dX7_worst_31 dX7_worst_32 (by decide) (by omega) (by omega) (fun c_31 => ?_) (fun c_31 => ?_)
          · refine lv_iload_n hx hb dX7_worst_39 rfl (lv_at hl 1 rfl) ?_
            refine lv_istore_n (lv' := [(1, .int (zI b)), (2, .int (zI j)), (0, .ref (a 0))]) hx hb dX7_worst_40 rfl hl (by decide) rfl (fun ls hl => ?_)
            refine x_iinc (x := j) (lv' := [(2, .int (zI (j + 1))), (1, .int (zI b)), (0, .ref (a 0))]) hx hb dX7_worst_41 hl (k := 1) rfl (by decide) rfl (fun ls hl => ?_)
            refine lv_goto (tgt := 5) hx hb dX7_worst_44 (by decide) ?_
            exact ih5 (j + 1) b (n0 + 1) (by omega) (by omega) (by omega) (by rw [hn] at *; show _ = if wst σ n0 = -6 ∨ msS σ (wst σ n0) < msS σ n0 then (n0 : Int) else wst σ n0; rw [← ha]; first | rw [if_pos (Or.inl c_18)] | rw [if_pos (Or.inr (by omega))] | (rw [if_neg (by omega)])) (by omega) ls (lv_sub hl [0, 1, 2] rfl)
          · refine lv_iload_n hx hb dX7_worst_35 rfl (lv_at hl 0 rfl) ?_
            refine lv_goto (tgt := 40) hx hb dX7_worst_36 (by decide) ?_
            refine lv_istore_n (lv' := [(1, .int (zI j)), (2, .int (zI j)), (0, .ref (a 0))]) hx hb dX7_worst_40 rfl hl (by decide) rfl (fun ls hl => ?_)
            refine x_iinc (x := j) (lv' := [(2, .int (zI (j + 1))), (1, .int (zI j)), (0, .ref (a 0))]) hx hb dX7_worst_41 hl (k := 1) rfl (by decide) rfl (fun ls hl => ?_)
            refine lv_goto (tgt := 5) hx hb dX7_worst_44 (by decide) ?_
            exact ih5 (j + 1) j (n0 + 1) (by omega) (by omega) (by omega) (by rw [hn] at *; show _ = if wst σ n0 = -6 ∨ msS σ (wst σ n0) < msS σ n0 then (n0 : Int) else wst σ n0; rw [← ha]; first | rw [if_pos (Or.inl c_18)] | rw [if_pos (Or.inr (by omega))] | (rw [if_neg (by omega)])) (by omega) ls (lv_sub hl [0, 1, 2] rfl)
  exact lp5 ((σ 7 - (0 : Int)).toNat + 1) 0 ((-6)) 0 (Nat.lt_succ_self _) (by omega) (by omega) (by rfl) (by omega) ls (lv_sub hl [0, 1, 2] rfl)
set_option maxHeartbeats 4000000 in
set_option maxRecDepth 100000 in
theorem c_X7_lags_bad (l : Launch) (D : va_G) (cs : Nat → ClassId) (a : Int → Nat) (σ : Int → Int) (pa : Int → Int) (sl : Int → Int) (sv : Int → Int) (pd : Int → Int) (kn : Int) (ln : Int) (k : Int) (h7 : 0 ≤ σ 7 ∧ σ 7 ≤ 7) (hk : -2147483648 ≤ k ∧ k < 2147483648) (hn : ¬ (0 ≤ k ∧ k < σ 7)) : kR D cs l yX7_lags wsX7_lags ({ frames := 3, cells := 0, slots := 0, locals := 64 } : Room) [.ref (a 0), .int (zI k)] (fun H => mAt D cs a σ pa sl sv pd kn ln H) (some (.int (zI (-1)))) := by
  refine Met.ofW (cc := cX7_lags) (maxL := 4) (ret := (some .int)) (by decide) rfl ?_
  intro p e s m args below meth c s₁ B hml hv
  obtain ⟨rfl, hK, hM⟩ := hv
  have hx := B.exec
  have hb := B.bytes
  have hr := B.returns
  have hts := atoms_spec (ws := wsX7_lags) B.pre
  have hown : s.vm.findClass RX7 = some m.cls := findClass_of_methodNamed B.named
  have hlocks := B.notSynchronized
  have S : CallFix p m c cX7_lags 4 s (([.ref (a 0), .int (zI k)] : List Value)).toArray wsX7_lags RX7 := ⟨hx, hb, hml, hown, hts⟩
  have hl := lv_entry ([.ref (a 0), .int (zI k)]) (n := 4) (Nat.le_of_ble_eq_true rfl)
  rw [lg_entry_eq]
  generalize (lg_sl ([.ref (a 0), .int (zI k)]) ++ List.replicate (4 - (lg_sl ([.ref (a 0), .int (zI k)])).length) Slot.unset).toArray = ls at hl ⊢
  have hl : lv_has ls 4 [(0, .ref (a 0)), (1, .int (zI k))] := hl
  refine lv_aload_n hx hb dX7_lags_0 rfl (lv_at hl 0 rfl) ?_
  refine lv_iload_n hx hb dX7_lags_1 rfl (lv_at hl 1 rfl) ?_
  refine x_callVR (As := [.int (zI k)]) (rest := []) S hK (c_X7_isMeter l D cs a σ pa sl sv pd kn ln k (by omega) (by omega)) (cwV 1 hts gX7_lags_X7_isMeter rfl rfl rfl (by decide +kernel) ⟨(Nat.le_of_ble_eq_true rfl), (Nat.le_of_ble_eq_true rfl)⟩) (x_rc hK (mAt_0 hM) rfl) hM rfl hl.1 (Nat.le_of_ble_eq_true rfl) dX7_lags_2 ⟨Nat.zero_le _, Nat.zero_le _⟩ ?_
  refine x_ifb_ne (tgt := 10) hx hb dX7_lags_5 (by decide)  (fun c_5 => ?_) (fun c_5 => ?_)
  · exact absurd c_5 hn
  · refine x_iconst hx hb dX7_lags_8 ?_
    exact x_iretR hx hb hr hlocks (by first | rfl | omega) rfl dX7_lags_9
set_option maxHeartbeats 4000000 in
set_option maxRecDepth 100000 in
theorem c_X7_lags_ok (l : Launch) (D : va_G) (cs : Nat → ClassId) (a : Int → Nat) (σ : Int → Int) (pa : Int → Int) (sl : Int → Int) (sv : Int → Int) (pd : Int → Int) (kn : Int) (ln : Int) (k : Int) (hL : lOK σ) (hk : 0 ≤ k ∧ k < σ 7) : kR D cs l yX7_lags wsX7_lags ({ frames := 3, cells := 0, slots := 0, locals := 64 } : Room) [.ref (a 0), .int (zI k)] (fun H => mAt D cs a σ pa sl sv pd kn ln H) (some (.int (zI (lgS σ k (σ 7 - 1).toNat)))) := by
  refine Met.ofW (cc := cX7_lags) (maxL := 4) (ret := (some .int)) (by decide) rfl ?_
  intro p e s m args below meth c s₁ B hml hv
  obtain ⟨rfl, hK, hM⟩ := hv
  have hx := B.exec
  have hb := B.bytes
  have hr := B.returns
  have hts := atoms_spec (ws := wsX7_lags) B.pre
  have hown : s.vm.findClass RX7 = some m.cls := findClass_of_methodNamed B.named
  have hlocks := B.notSynchronized
  have S : CallFix p m c cX7_lags 4 s (([.ref (a 0), .int (zI k)] : List Value)).toArray wsX7_lags RX7 := ⟨hx, hb, hml, hown, hts⟩
  have hl := lv_entry ([.ref (a 0), .int (zI k)]) (n := 4) (Nat.le_of_ble_eq_true rfl)
  rw [lg_entry_eq]
  generalize (lg_sl ([.ref (a 0), .int (zI k)]) ++ List.replicate (4 - (lg_sl ([.ref (a 0), .int (zI k)])).length) Slot.unset).toArray = ls at hl ⊢
  have hl : lv_has ls 4 [(0, .ref (a 0)), (1, .int (zI k))] := hl
  have h7 := hL.1
  refine lv_aload_n hx hb dX7_lags_0 rfl (lv_at hl 0 rfl) ?_
  refine lv_iload_n hx hb dX7_lags_1 rfl (lv_at hl 1 rfl) ?_
  refine x_callVR (As := [.int (zI k)]) (rest := []) S hK (c_X7_isMeter l D cs a σ pa sl sv pd kn ln k (by omega) (by omega)) (cwV 1 hts gX7_lags_X7_isMeter rfl rfl rfl (by decide +kernel) ⟨(Nat.le_of_ble_eq_true rfl), (Nat.le_of_ble_eq_true rfl)⟩) (x_rc hK (mAt_0 hM) rfl) hM rfl hl.1 (Nat.le_of_ble_eq_true rfl) dX7_lags_2 ⟨Nat.zero_le _, Nat.zero_le _⟩ ?_
  refine x_ifb_ne (tgt := 10) hx hb dX7_lags_5 (by decide)  (fun c_5 => ?_) (fun c_5 => ?_)
  · refine x_ldc (v := 10000000) hx hb hown (hts (.constant RX7 163 (zI 10000000)) (by decide +kernel)) dX7_lags_10 ?_
    refine lv_aload_n hx hb dX7_lags_12 rfl (lv_at hl 0 rfl) ?_
    refine lv_iload_n hx hb dX7_lags_13 rfl (lv_at hl 1 rfl) ?_
    refine x_callVR (As := [.int (zI k)]) (rest := [.int (zI 10000000)]) S hK (c_X7_turnsOf l D cs a σ pa sl sv pd kn ln k (by omega)) (cwV 1 hts gX7_lags_X7_turnsOf rfl rfl rfl (by decide +kernel) ⟨(Nat.le_of_ble_eq_true rfl), (Nat.le_of_ble_eq_true rfl)⟩) (x_rc hK (mAt_0 hM) rfl) hM rfl hl.1 (Nat.le_of_ble_eq_true rfl) dX7_lags_14 ⟨Nat.zero_le _, Nat.zero_le _⟩ ?_
    refine x_isub hx hb dX7_lags_17 ?_
    refine lv_istore_n (lv' := [(2, .int (zI (10000000 - (trn σ k)))), (0, .ref (a 0)), (1, .int (zI k))]) hx hb dX7_lags_18 rfl hl (by decide) rfl (fun ls hl => ?_)
    refine x_iconst hx hb dX7_lags_19 ?_
    refine lv_istore_n (lv' := [(3, .int (zI 1)), (2, .int (zI (10000000 - (trn σ k)))), (0, .ref (a 0)), (1, .int (zI k))]) hx hb dX7_lags_20 rfl hl (by decide) rfl (fun ls hl => ?_)
    have lp21 : ∀ (n : Nat) (j : Int) (acc : Int) (n0 : Nat), (σ 7 - j).toNat < n → (1 ≤ j ∧ j ≤ σ 7) → (j = (n0 : Int) + 1) → (acc = lgS σ k n0) → ∀ (ls : Array Slot), lv_has ls 4 [(3, .int (zI j)), (2, .int (zI acc)), (0, .ref (a 0)), (1, .int (zI k))] → W p l e (headSpec wsX7_lags ({ frames := 3, cells := 0, slots := 0, locals := 64 } : Room)).room s m ([.ref (a 0), .int (zI k)] : List Value).toArray below meth c s.heap [] 0 0 (MQ below (kS (some (.int (zI (lgS σ k (σ 7 - 1).toNat))))) ([.ref (a 0), .int (zI k)] : List Value).toArray s 0 0 (fun _ => False)) (F0 m 21 ls []) := by
      intro n
      induction n with
      | zero => intro j acc n0 hms; exact absurd hms (Nat.not_lt_zero _)
      | succ n ih =>
        intro j acc n0 hms hj hn ha ls hl
        have ih21 := ih
        clear ih
        refine lv_iload_n hx hb dX7_lags_21 rfl (lv_at hl 0 rfl) ?_
        refine lv_aload_n hx hb dX7_lags_22 rfl (lv_at hl 2 rfl) ?_
        refine x_bipush hx hb dX7_lags_23 (by decide +kernel) ?_
        refine x_callVR (As := [.int (zI 7)]) (rest := [.int (zI j)]) S hK (c_X7_num l D cs a σ pa sl sv pd kn ln 7 (by omega)) (cwV 1 hts gX7_lags_X7_num rfl rfl rfl (by decide +kernel) ⟨(Nat.le_of_ble_eq_true rfl), (Nat.le_of_ble_eq_true rfl)⟩) (x_rc hK (mAt_0 hM) rfl) hM rfl hl.1 (Nat.le_of_ble_eq_true rfl) dX7_lags_25 ⟨Nat.zero_le _, Nat.zero_le _⟩ ?_
        refine x_icmp_ge (tgt := 59) hx hb dX7_lags_28 (by decide) (by omega) (by omega) (fun c_28 => ?_) (fun c_28 => ?_)
        · refine lv_iload_n hx hb dX7_lags_59 rfl (lv_at hl 1 rfl) ?_
          exact x_iretR hx hb hr hlocks (by rw [ha, show (σ 7 - 1).toNat = n0 by omega]) rfl dX7_lags_60
        · have ht := hL.2.2.1 j (by omega) (by omega)
          have ht : 0 ≤ σ (11 + 13 * j + 0) ∧ σ (11 + 13 * j + 0) < j := by rw [Int.add_zero]; exact ht
          refine lv_iload_n hx hb dX7_lags_31 rfl (lv_at hl 1 rfl) ?_
          refine lv_aload_n hx hb dX7_lags_32 rfl (lv_at hl 2 rfl) ?_
          refine lv_iload_n hx hb dX7_lags_33 rfl (lv_at hl 0 rfl) ?_
          refine x_iconst hx hb dX7_lags_34 ?_
          refine x_callVR (As := [.int (zI j), .int (zI 0)]) (rest := [.int (zI acc)]) S hK (c_X7_its l D cs a σ pa sl sv pd kn ln j 0 (by omega) (by omega)) (cwV 2 hts gX7_lags_X7_its rfl rfl rfl (by decide +kernel) ⟨(Nat.le_of_ble_eq_true rfl), (Nat.le_of_ble_eq_true rfl)⟩) (x_rc hK (mAt_0 hM) rfl) hM rfl hl.1 (Nat.le_of_ble_eq_true rfl) dX7_lags_35 ⟨Nat.zero_le _, Nat.zero_le _⟩ ?_
          refine lv_iload_n hx hb dX7_lags_38 rfl (lv_at hl 3 rfl) ?_
          refine x_icmp_ne (tgt := 50) hx hb dX7_lags_39 (by decide) (by omega) (by omega) (fun c_39 => ?_) (fun c_39 => ?_)
          · refine x_iconst hx hb dX7_lags_50 ?_
            refine x_iadd hx hb dX7_lags_51 ?_
            refine lv_istore_n (lv' := [(2, .int (zI (acc + 0))), (3, .int (zI j)), (0, .ref (a 0)), (1, .int (zI k))]) hx hb dX7_lags_52 rfl hl (by decide) rfl (fun ls hl => ?_)
            refine x_iinc (x := j) (lv' := [(3, .int (zI (j + 1))), (2, .int (zI (acc + 0))), (0, .ref (a 0)), (1, .int (zI k))]) hx hb dX7_lags_53 hl (k := 1) rfl (by decide) rfl (fun ls hl => ?_)
            refine lv_goto (tgt := 21) hx hb dX7_lags_56 (by decide) ?_
            exact ih21 (j + 1) (acc + 0) (n0 + 1) (by omega) (by omega) (by omega) (by rw [ha]; (try rw [hn]); show _ = lgS σ k n0 + _; rw [hn] at c_39; first | rw [if_pos c_39] | rw [if_neg c_39]) ls (lv_sub hl [0, 1, 2, 3] rfl)
          · refine lv_aload_n hx hb dX7_lags_42 rfl (lv_at hl 2 rfl) ?_
            refine lv_iload_n hx hb dX7_lags_43 rfl (lv_at hl 0 rfl) ?_
            refine x_callVR (As := [.int (zI j)]) (rest := [.int (zI acc)]) S hK (c_X7_turnsOf l D cs a σ pa sl sv pd kn ln j (by omega)) (cwV 1 hts gX7_lags_X7_turnsOf rfl rfl rfl (by decide +kernel) ⟨(Nat.le_of_ble_eq_true rfl), (Nat.le_of_ble_eq_true rfl)⟩) (x_rc hK (mAt_0 hM) rfl) hM rfl hl.1 (Nat.le_of_ble_eq_true rfl) dX7_lags_44 ⟨Nat.zero_le _, Nat.zero_le _⟩ ?_
            refine lv_goto (tgt := 51) hx hb dX7_lags_47 (by decide) ?_
            refine x_iadd hx hb dX7_lags_51 ?_
            refine lv_istore_n (lv' := [(2, .int (zI (acc + (trn σ j)))), (3, .int (zI j)), (0, .ref (a 0)), (1, .int (zI k))]) hx hb dX7_lags_52 rfl hl (by decide) rfl (fun ls hl => ?_)
            refine x_iinc (x := j) (lv' := [(3, .int (zI (j + 1))), (2, .int (zI (acc + (trn σ j)))), (0, .ref (a 0)), (1, .int (zI k))]) hx hb dX7_lags_53 hl (k := 1) rfl (by decide) rfl (fun ls hl => ?_)
            refine lv_goto (tgt := 21) hx hb dX7_lags_56 (by decide) ?_
            exact ih21 (j + 1) (acc + (trn σ j)) (n0 + 1) (by omega) (by omega) (by omega) (by rw [ha]; (try rw [hn]); show _ = lgS σ k n0 + _; rw [hn] at c_39; first | rw [if_pos c_39] | rw [if_neg c_39]) ls (lv_sub hl [0, 1, 2, 3] rfl)
    exact lp21 ((σ 7 - (1 : Int)).toNat + 1) 1 (10000000 - (trn σ k)) 0 (Nat.lt_succ_self _) (by omega) (by omega) (by rfl) ls (lv_sub hl [0, 1, 2, 3] rfl)
  · exact absurd hk c_5
