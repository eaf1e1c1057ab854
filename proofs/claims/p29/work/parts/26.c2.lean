set_option maxHeartbeats 4000000 in
set_option maxRecDepth 100000 in
theorem c_X6_isNight (l : Launch) (D : va_G) (cs : Nat → ClassId) (tm : Int) (ht : 0 ≤ tm ∧ tm < 2147483648) : kR D cs l yX6_isNight wsX6_isNight ({ frames := 0, cells := 0, slots := 0, locals := 0 } : Room) [.int (zI tm)] (fun _ => True) (some (.int (zI (ngt tm)))) := by
  refine Met.ofW (cc := cX6_isNight) (maxL := 2) (ret := (some .boolean)) (by decide) rfl ?_
  intro p e s m args below meth c s₁ B hml hv
  obtain ⟨rfl, hK, -⟩ := hv
  have hx := B.exec
  have hb := B.bytes
  have hr := B.returns
  have hts := atoms_spec (ws := wsX6_isNight) B.pre
  have hown : s.vm.findClass RX6 = some m.cls := findClass_of_methodNamed B.named
  have hlocks := B.notSynchronized
  have S : CallFix p m c cX6_isNight 2 s (([.int (zI tm)] : List Value)).toArray wsX6_isNight RX6 := ⟨hx, hb, hml, hown, hts⟩
  have hl := lv_entry ([.int (zI tm)]) (n := 2) (Nat.le_of_ble_eq_true rfl)
  rw [lg_entry_eq]
  generalize (lg_sl ([.int (zI tm)]) ++ List.replicate (2 - (lg_sl ([.int (zI tm)])).length) Slot.unset).toArray = ls at hl ⊢
  have hl : lv_has ls 2 [(0, .int (zI tm))] := hl
  refine lv_iload_n hx hb dX6_isNight_0 rfl (lv_at hl 0 rfl) ?_
  refine x_sipush hx hb dX6_isNight_1 (by decide +kernel) ?_
  refine x_irem hx hb (by omega) (by omega) dX6_isNight_4 ?_
  refine lv_istore_n (lv' := [(1, .int (zI (tm % 1440))), (0, .int (zI tm))]) hx hb dX6_isNight_5 rfl hl (by decide) rfl (fun ls hl => ?_)
  refine lv_iload_n hx hb dX6_isNight_6 rfl (lv_at hl 0 rfl) ?_
  refine x_sipush hx hb dX6_isNight_7 (by decide +kernel) ?_
  refine x_icmp_ge (tgt := 20) hx hb dX6_isNight_10 (by decide) (by omega) (by omega) (fun c_10 => ?_) (fun c_10 => ?_)
  · refine x_iconst hx hb dX6_isNight_20 ?_
    refine lv_goto (tgt := 25) hx hb dX6_isNight_21 (by decide) ?_
    exact x_zretR hx hb hr hlocks (by unfold ngt; first | (rw [if_pos (by omega)]) | (rw [if_neg (by omega)])) (by first | decide | exact Or.inl rfl | exact Or.inr rfl | (split <;> simp)) rfl dX6_isNight_25
  · refine lv_iload_n hx hb dX6_isNight_13 rfl (lv_at hl 0 rfl) ?_
    refine x_sipush hx hb dX6_isNight_14 (by decide +kernel) ?_
    refine x_icmp_ge (tgt := 24) hx hb dX6_isNight_17 (by decide) (by omega) (by omega) (fun c_17 => ?_) (fun c_17 => ?_)
    · refine x_iconst hx hb dX6_isNight_24 ?_
      exact x_zretR hx hb hr hlocks (by unfold ngt; first | (rw [if_pos (by omega)]) | (rw [if_neg (by omega)])) (by first | decide | exact Or.inl rfl | exact Or.inr rfl | (split <;> simp)) rfl dX6_isNight_25
    · refine x_iconst hx hb dX6_isNight_20 ?_
      refine lv_goto (tgt := 25) hx hb dX6_isNight_21 (by decide) ?_
      exact x_zretR hx hb hr hlocks (by unfold ngt; first | (rw [if_pos (by omega)]) | (rw [if_neg (by omega)])) (by first | decide | exact Or.inl rfl | exact Or.inr rfl | (split <;> simp)) rfl dX6_isNight_25
set_option maxHeartbeats 4000000 in
set_option maxRecDepth 100000 in
theorem c_X6_minutesToSwitch (l : Launch) (D : va_G) (cs : Nat → ClassId) (tm : Int) (ht : 0 ≤ tm ∧ tm < 2147483648) : kR D cs l yX6_minutesToSwitch wsX6_minutesToSwitch ({ frames := 0, cells := 0, slots := 0, locals := 0 } : Room) [.int (zI tm)] (fun _ => True) (some (.int (zI (swt tm)))) := by
  refine Met.ofW (cc := cX6_minutesToSwitch) (maxL := 2) (ret := (some .int)) (by decide) rfl ?_
  intro p e s m args below meth c s₁ B hml hv
  obtain ⟨rfl, hK, -⟩ := hv
  have hx := B.exec
  have hb := B.bytes
  have hr := B.returns
  have hts := atoms_spec (ws := wsX6_minutesToSwitch) B.pre
  have hown : s.vm.findClass RX6 = some m.cls := findClass_of_methodNamed B.named
  have hlocks := B.notSynchronized
  have S : CallFix p m c cX6_minutesToSwitch 2 s (([.int (zI tm)] : List Value)).toArray wsX6_minutesToSwitch RX6 := ⟨hx, hb, hml, hown, hts⟩
  have hl := lv_entry ([.int (zI tm)]) (n := 2) (Nat.le_of_ble_eq_true rfl)
  rw [lg_entry_eq]
  generalize (lg_sl ([.int (zI tm)]) ++ List.replicate (2 - (lg_sl ([.int (zI tm)])).length) Slot.unset).toArray = ls at hl ⊢
  have hl : lv_has ls 2 [(0, .int (zI tm))] := hl
  refine lv_iload_n hx hb dX6_minutesToSwitch_0 rfl (lv_at hl 0 rfl) ?_
  refine x_sipush hx hb dX6_minutesToSwitch_1 (by decide +kernel) ?_
  refine x_irem hx hb (by omega) (by omega) dX6_minutesToSwitch_4 ?_
  refine lv_istore_n (lv' := [(1, .int (zI (tm % 1440))), (0, .int (zI tm))]) hx hb dX6_minutesToSwitch_5 rfl hl (by decide) rfl (fun ls hl => ?_)
  refine lv_iload_n hx hb dX6_minutesToSwitch_6 rfl (lv_at hl 0 rfl) ?_
  refine x_sipush hx hb dX6_minutesToSwitch_7 (by decide +kernel) ?_
  refine x_icmp_ge (tgt := 19) hx hb dX6_minutesToSwitch_10 (by decide) (by omega) (by omega) (fun c_10 => ?_) (fun c_10 => ?_)
  · refine lv_iload_n hx hb dX6_minutesToSwitch_19 rfl (lv_at hl 0 rfl) ?_
    refine x_sipush hx hb dX6_minutesToSwitch_20 (by decide +kernel) ?_
    refine x_icmp_ge (tgt := 32) hx hb dX6_minutesToSwitch_23 (by decide) (by omega) (by omega) (fun c_23 => ?_) (fun c_23 => ?_)
    · refine x_sipush hx hb dX6_minutesToSwitch_32 (by decide +kernel) ?_
      refine lv_iload_n hx hb dX6_minutesToSwitch_35 rfl (lv_at hl 0 rfl) ?_
      refine x_isub hx hb dX6_minutesToSwitch_36 ?_
      exact x_iretR hx hb hr hlocks (by unfold swt; repeat (first | rw [if_pos (by omega)] | rw [if_neg (by omega)])) rfl dX6_minutesToSwitch_37
    · refine x_sipush hx hb dX6_minutesToSwitch_26 (by decide +kernel) ?_
      refine lv_goto (tgt := 35) hx hb dX6_minutesToSwitch_29 (by decide) ?_
      refine lv_iload_n hx hb dX6_minutesToSwitch_35 rfl (lv_at hl 0 rfl) ?_
      refine x_isub hx hb dX6_minutesToSwitch_36 ?_
      exact x_iretR hx hb hr hlocks (by unfold swt; repeat (first | rw [if_pos (by omega)] | rw [if_neg (by omega)])) rfl dX6_minutesToSwitch_37
  · refine x_sipush hx hb dX6_minutesToSwitch_13 (by decide +kernel) ?_
    refine lv_iload_n hx hb dX6_minutesToSwitch_16 rfl (lv_at hl 0 rfl) ?_
    refine x_isub hx hb dX6_minutesToSwitch_17 ?_
    exact x_iretR hx hb hr hlocks (by unfold swt; repeat (first | rw [if_pos (by omega)] | rw [if_neg (by omega)])) rfl dX6_minutesToSwitch_18
set_option maxHeartbeats 4000000 in
set_option maxRecDepth 100000 in
theorem c_X2_contains (l : Launch) (D : va_G) (cs : Nat → ClassId) (x : Int) (k : Int) (hxr : 0 ≤ x ∧ x < 2147483648) (hk : 0 ≤ k ∧ k ≤ 30) : kR D cs l yX2_contains wsX2_contains ({ frames := 0, cells := 0, slots := 0, locals := 0 } : Room) [.int (zI x), .int (zI k)] (fun _ => True) (some (.int (zI (if x / 2 ^ k.toNat % 2 = 1 then 1 else 0)))) := by
  refine Met.ofW (cc := cX2_contains) (maxL := 2) (ret := (some .boolean)) (by decide) rfl ?_
  intro p e s m args below meth c s₁ B hml hv
  obtain ⟨rfl, hK, -⟩ := hv
  have hx := B.exec
  have hb := B.bytes
  have hr := B.returns
  have hts := atoms_spec (ws := wsX2_contains) B.pre
  have hown : s.vm.findClass RX2 = some m.cls := findClass_of_methodNamed B.named
  have hlocks := B.notSynchronized
  have S : CallFix p m c cX2_contains 2 s (([.int (zI x), .int (zI k)] : List Value)).toArray wsX2_contains RX2 := ⟨hx, hb, hml, hown, hts⟩
  have hl := lv_entry ([.int (zI x), .int (zI k)]) (n := 2) (Nat.le_of_ble_eq_true rfl)
  rw [lg_entry_eq]
  generalize (lg_sl ([.int (zI x), .int (zI k)]) ++ List.replicate (2 - (lg_sl ([.int (zI x), .int (zI k)])).length) Slot.unset).toArray = ls at hl ⊢
  have hl : lv_has ls 2 [(0, .int (zI x)), (1, .int (zI k))] := hl
  have hs := shr_rng k.toNat hxr
  refine lv_iload_n hx hb dX2_contains_0 rfl (lv_at hl 0 rfl) ?_
  refine lv_iload_n hx hb dX2_contains_1 rfl (lv_at hl 1 rfl) ?_
  refine x_ishr hx hb (by omega) (by omega) dX2_contains_2 ?_
  refine x_iconst hx hb dX2_contains_3 ?_
  refine x_iand hx hb (by omega) dX2_contains_4 ?_
  refine x_iconst hx hb dX2_contains_5 ?_
  refine x_icmp_ne (tgt := 13) hx hb dX2_contains_6 (by decide) (by omega) (by omega) (fun c_6 => ?_) (fun c_6 => ?_)
  · refine x_iconst hx hb dX2_contains_13 ?_
    exact x_zretR hx hb hr hlocks (by first | (rw [if_pos (by omega)]) | (rw [if_neg (by omega)])) (by first | decide | exact Or.inl rfl | exact Or.inr rfl | (split <;> simp)) rfl dX2_contains_14
  · refine x_iconst hx hb dX2_contains_9 ?_
    refine lv_goto (tgt := 14) hx hb dX2_contains_10 (by decide) ?_
    exact x_zretR hx hb hr hlocks (by first | (rw [if_pos (by omega)]) | (rw [if_neg (by omega)])) (by first | decide | exact Or.inl rfl | exact Or.inr rfl | (split <;> simp)) rfl dX2_contains_14
set_option maxHeartbeats 4000000 in
set_option maxRecDepth 100000 in
theorem c_X2_meterAt_ok (l : Launch) (D : va_G) (cs : Nat → ClassId) (a : Int → Nat) (τ : Int → Int) (k : Int) (h7 : 0 ≤ τ 7 ∧ τ 7 ≤ 7) (hk : 0 ≤ k ∧ k < τ 7) : kR D cs l yX2_meterAt wsX2_meterAt ({ frames := 0, cells := 0, slots := 0, locals := 0 } : Room) [.ref (a 0), .int (zI k)] (fun H => hAt D cs a τ H) (some (.ref (a (4 + k)))) := by
  refine Met.ofW (cc := cX2_meterAt) (maxL := 2) (ret := (some (.object "EnergyDiscs$Meter"))) (by decide) rfl ?_
  intro p e s m args below meth c s₁ B hml hv
  obtain ⟨rfl, hK, hH⟩ := hv
  have hx := B.exec
  have hb := B.bytes
  have hr := B.returns
  have hts := atoms_spec (ws := wsX2_meterAt) B.pre
  have hown : s.vm.findClass RX2 = some m.cls := findClass_of_methodNamed B.named
  have hlocks := B.notSynchronized
  have S : CallFix p m c cX2_meterAt 2 s (([.ref (a 0), .int (zI k)] : List Value)).toArray wsX2_meterAt RX2 := ⟨hx, hb, hml, hown, hts⟩
  have hin2 : ∀ w ∈ wsX20, w ∈ wsX2_meterAt := by decide +kernel
  have hl := lv_entry ([.ref (a 0), .int (zI k)]) (n := 2) (Nat.le_of_ble_eq_true rfl)
  rw [lg_entry_eq]
  generalize (lg_sl ([.ref (a 0), .int (zI k)]) ++ List.replicate (2 - (lg_sl ([.ref (a 0), .int (zI k)])).length) Slot.unset).toArray = ls at hl ⊢
  have hl : lv_has ls 2 [(0, .ref (a 0)), (1, .int (zI k))] := hl
  refine lv_iload_n hx hb dX2_meterAt_0 rfl (lv_at hl 1 rfl) ?_
  refine x_if_lt (tgt := 21) hx hb dX2_meterAt_1 (by decide) (by omega) (fun c_1 => ?_) (fun c_1 => ?_)
  · exfalso; omega
  · refine lv_iload_n hx hb dX2_meterAt_4 rfl (lv_at hl 1 rfl) ?_
    refine lv_aload_n hx hb dX2_meterAt_5 rfl (lv_at hl 0 rfl) ?_
    refine h_g_meterCount S hin2 hK (hAt_hs hH) (hts (.fieldLink RX2 32 "EnergyDiscs$House" "meterCount" "I") (by decide +kernel)) dX2_meterAt_6 ?_
    refine x_icmp_ge (tgt := 21) hx hb dX2_meterAt_9 (by decide) (by omega) (by omega) (fun c_9 => ?_) (fun c_9 => ?_)
    · exfalso; omega
    · refine lv_aload_n hx hb dX2_meterAt_12 rfl (lv_at hl 0 rfl) ?_
      refine h_g_meters S hin2 hK (hAt_hs hH) (hts (.fieldLink RX2 17 "EnergyDiscs$House" "meters" "[LEnergyDiscs$Meter;") (by decide +kernel)) dX2_meterAt_13 ?_
      refine lv_iload_n hx hb dX2_meterAt_16 rfl (lv_at hl 1 rfl) ?_
      refine h_l_meters S hK hH (by omega) dX2_meterAt_17 ?_
      refine lv_goto (tgt := 22) hx hb dX2_meterAt_18 (by decide) ?_
      exact x_aretR hx hb hr (Or.inl ⟨_, rfl⟩) hlocks (by first | rfl | omega) (Or.inr ⟨_, rfl⟩) rfl dX2_meterAt_22
set_option maxHeartbeats 4000000 in
set_option maxRecDepth 100000 in
theorem c_X2_meterAt_no (l : Launch) (D : va_G) (cs : Nat → ClassId) (a : Int → Nat) (τ : Int → Int) (k : Int) (h7 : 0 ≤ τ 7 ∧ τ 7 ≤ 7) (hk : -2147483648 ≤ k ∧ k < 2147483648) (hn : ¬ (0 ≤ k ∧ k < τ 7)) : kR D cs l yX2_meterAt wsX2_meterAt ({ frames := 0, cells := 0, slots := 0, locals := 0 } : Room) [.ref (a 0), .int (zI k)] (fun H => hAt D cs a τ H) (some (.null)) := by
  refine Met.ofW (cc := cX2_meterAt) (maxL := 2) (ret := (some (.object "EnergyDiscs$Meter"))) (by decide) rfl ?_
  intro p e s m args below meth c s₁ B hml hv
  obtain ⟨rfl, hK, hH⟩ := hv
  have hx := B.exec
  have hb := B.bytes
  have hr := B.returns
  have hts := atoms_spec (ws := wsX2_meterAt) B.pre
  have hown : s.vm.findClass RX2 = some m.cls := findClass_of_methodNamed B.named
  have hlocks := B.notSynchronized
  have S : CallFix p m c cX2_meterAt 2 s (([.ref (a 0), .int (zI k)] : List Value)).toArray wsX2_meterAt RX2 := ⟨hx, hb, hml, hown, hts⟩
  have hin2 : ∀ w ∈ wsX20, w ∈ wsX2_meterAt := by decide +kernel
  have hl := lv_entry ([.ref (a 0), .int (zI k)]) (n := 2) (Nat.le_of_ble_eq_true rfl)
  rw [lg_entry_eq]
  generalize (lg_sl ([.ref (a 0), .int (zI k)]) ++ List.replicate (2 - (lg_sl ([.ref (a 0), .int (zI k)])).length) Slot.unset).toArray = ls at hl ⊢
  have hl : lv_has ls 2 [(0, .ref (a 0)), (1, .int (zI k))] := hl
  refine lv_iload_n hx hb dX2_meterAt_0 rfl (lv_at hl 1 rfl) ?_
  refine x_if_lt (tgt := 21) hx hb dX2_meterAt_1 (by decide) (by omega) (fun c_1 => ?_) (fun c_1 => ?_)
  · refine lv_null hx hb dX2_meterAt_21 ?_
    exact x_aretR hx hb hr (Or.inl ⟨_, rfl⟩) hlocks (by first | rfl | omega) (Or.inl rfl) rfl dX2_meterAt_22
  · refine lv_iload_n hx hb dX2_meterAt_4 rfl (lv_at hl 1 rfl) ?_
    refine lv_aload_n hx hb dX2_meterAt_5 rfl (lv_at hl 0 rfl) ?_
    refine h_g_meterCount S hin2 hK (hAt_hs hH) (hts (.fieldLink RX2 32 "EnergyDiscs$House" "meterCount" "I") (by decide +kernel)) dX2_meterAt_6 ?_
    refine x_icmp_ge (tgt := 21) hx hb dX2_meterAt_9 (by decide) (by omega) (by omega) (fun c_9 => ?_) (fun c_9 => ?_)
    · refine lv_null hx hb dX2_meterAt_21 ?_
      exact x_aretR hx hb hr (Or.inl ⟨_, rfl⟩) hlocks (by first | rfl | omega) (Or.inl rfl) rfl dX2_meterAt_22
    · exfalso; omega
set_option maxHeartbeats 4000000 in
set_option maxRecDepth 100000 in
theorem c_X2_loadAt_ok (l : Launch) (D : va_G) (cs : Nat → ClassId) (a : Int → Nat) (τ : Int → Int) (k : Int) (h8 : 0 ≤ τ 8 ∧ τ 8 ≤ 12) (hk : 0 ≤ k ∧ k < τ 8) : kR D cs l yX2_loadAt wsX2_loadAt ({ frames := 0, cells := 0, slots := 0, locals := 0 } : Room) [.ref (a 0), .int (zI k)] (fun H => hAt D cs a τ H) (some (.ref (a (11 + k)))) := by
  refine Met.ofW (cc := cX2_loadAt) (maxL := 2) (ret := (some (.object "EnergyDiscs$Load"))) (by decide) rfl ?_
  intro p e s m args below meth c s₁ B hml hv
  obtain ⟨rfl, hK, hH⟩ := hv
  have hx := B.exec
  have hb := B.bytes
  have hr := B.returns
  have hts := atoms_spec (ws := wsX2_loadAt) B.pre
  have hown : s.vm.findClass RX2 = some m.cls := findClass_of_methodNamed B.named
  have hlocks := B.notSynchronized
  have S : CallFix p m c cX2_loadAt 2 s (([.ref (a 0), .int (zI k)] : List Value)).toArray wsX2_loadAt RX2 := ⟨hx, hb, hml, hown, hts⟩
  have hin2 : ∀ w ∈ wsX20, w ∈ wsX2_loadAt := by decide +kernel
  have hl := lv_entry ([.ref (a 0), .int (zI k)]) (n := 2) (Nat.le_of_ble_eq_true rfl)
  rw [lg_entry_eq]
  generalize (lg_sl ([.ref (a 0), .int (zI k)]) ++ List.replicate (2 - (lg_sl ([.ref (a 0), .int (zI k)])).length) Slot.unset).toArray = ls at hl ⊢
  have hl : lv_has ls 2 [(0, .ref (a 0)), (1, .int (zI k))] := hl
  refine lv_iload_n hx hb dX2_loadAt_0 rfl (lv_at hl 1 rfl) ?_
  refine x_if_lt (tgt := 21) hx hb dX2_loadAt_1 (by decide) (by omega) (fun c_1 => ?_) (fun c_1 => ?_)
  · exfalso; omega
  · refine lv_iload_n hx hb dX2_loadAt_4 rfl (lv_at hl 1 rfl) ?_
    refine lv_aload_n hx hb dX2_loadAt_5 rfl (lv_at hl 0 rfl) ?_
    refine h_g_loadCount S hin2 hK (hAt_hs hH) (hts (.fieldLink RX2 40 "EnergyDiscs$House" "loadCount" "I") (by decide +kernel)) dX2_loadAt_6 ?_
    refine x_icmp_ge (tgt := 21) hx hb dX2_loadAt_9 (by decide) (by omega) (by omega) (fun c_9 => ?_) (fun c_9 => ?_)
    · exfalso; omega
    · refine lv_aload_n hx hb dX2_loadAt_12 rfl (lv_at hl 0 rfl) ?_
      refine h_g_loads S hin2 hK (hAt_hs hH) (hts (.fieldLink RX2 23 "EnergyDiscs$House" "loads" "[LEnergyDiscs$Load;") (by decide +kernel)) dX2_loadAt_13 ?_
      refine lv_iload_n hx hb dX2_loadAt_16 rfl (lv_at hl 1 rfl) ?_
      refine h_l_loads S hK hH (by omega) dX2_loadAt_17 ?_
      refine lv_goto (tgt := 22) hx hb dX2_loadAt_18 (by decide) ?_
      exact x_aretR hx hb hr (Or.inl ⟨_, rfl⟩) hlocks (by first | rfl | omega) (Or.inr ⟨_, rfl⟩) rfl dX2_loadAt_22
set_option maxHeartbeats 4000000 in
set_option maxRecDepth 100000 in
theorem c_X2_loadAt_no (l : Launch) (D : va_G) (cs : Nat → ClassId) (a : Int → Nat) (τ : Int → Int) (k : Int) (h8 : 0 ≤ τ 8 ∧ τ 8 ≤ 12) (hk : -2147483648 ≤ k ∧ k < 2147483648) (hn : ¬ (0 ≤ k ∧ k < τ 8)) : kR D cs l yX2_loadAt wsX2_loadAt ({ frames := 0, cells := 0, slots := 0, locals := 0 } : Room) [.ref (a 0), .int (zI k)] (fun H => hAt D cs a τ H) (some (.null)) := by
  refine Met.ofW (cc := cX2_loadAt) (maxL := 2) (ret := (some (.object "EnergyDiscs$Load"))) (by decide) rfl ?_
  intro p e s m args below meth c s₁ B hml hv
  obtain ⟨rfl, hK, hH⟩ := hv
  have hx := B.exec
  have hb := B.bytes
  have hr := B.returns
  have hts := atoms_spec (ws := wsX2_loadAt) B.pre
  have hown : s.vm.findClass RX2 = some m.cls := findClass_of_methodNamed B.named
  have hlocks := B.notSynchronized
  have S : CallFix p m c cX2_loadAt 2 s (([.ref (a 0), .int (zI k)] : List Value)).toArray wsX2_loadAt RX2 := ⟨hx, hb, hml, hown, hts⟩
  have hin2 : ∀ w ∈ wsX20, w ∈ wsX2_loadAt := by decide +kernel
  have hl := lv_entry ([.ref (a 0), .int (zI k)]) (n := 2) (Nat.le_of_ble_eq_true rfl)
  rw [lg_entry_eq]
  generalize (lg_sl ([.ref (a 0), .int (zI k)]) ++ List.replicate (2 - (lg_sl ([.ref (a 0), .int (zI k)])).length) Slot.unset).toArray = ls at hl ⊢
  have hl : lv_has ls 2 [(0, .ref (a 0)), (1, .int (zI k))] := hl
  refine lv_iload_n hx hb dX2_loadAt_0 rfl (lv_at hl 1 rfl) ?_
  refine x_if_lt (tgt := 21) hx hb dX2_loadAt_1 (by decide) (by omega) (fun c_1 => ?_) (fun c_1 => ?_)
  · refine lv_null hx hb dX2_loadAt_21 ?_
    exact x_aretR hx hb hr (Or.inl ⟨_, rfl⟩) hlocks (by first | rfl | omega) (Or.inl rfl) rfl dX2_loadAt_22
  · refine lv_iload_n hx hb dX2_loadAt_4 rfl (lv_at hl 1 rfl) ?_
    refine lv_aload_n hx hb dX2_loadAt_5 rfl (lv_at hl 0 rfl) ?_
    refine h_g_loadCount S hin2 hK (hAt_hs hH) (hts (.fieldLink RX2 40 "EnergyDiscs$House" "loadCount" "I") (by decide +kernel)) dX2_loadAt_6 ?_
    refine x_icmp_ge (tgt := 21) hx hb dX2_loadAt_9 (by decide) (by omega) (by omega) (fun c_9 => ?_) (fun c_9 => ?_)
    · refine lv_null hx hb dX2_loadAt_21 ?_
      exact x_aretR hx hb hr (Or.inl ⟨_, rfl⟩) hlocks (by first | rfl | omega) (Or.inl rfl) rfl dX2_loadAt_22
    · exfalso; omega
set_option maxHeartbeats 4000000 in
set_option maxRecDepth 100000 in
theorem c_X2_addMeter_bad (l : Launch) (D : va_G) (cs : Nat → ClassId) (a : Int → Nat) (τ : Int → Int) (k : Int) (h7 : 0 ≤ τ 7 ∧ τ 7 ≤ 7) (hk : -2147483648 ≤ k ∧ k < 2147483648) (hn : wnM τ k < 0) : kR D cs l yX2_addMeter wsX2_addMeter ({ frames := 1, cells := 0, slots := 0, locals := 22 } : Room) [.ref (a 0), .int (zI k)] (fun H => hAt D cs a τ H) (some (.int (zI (wnM τ k)))) := by
  refine Met.ofW (cc := cX2_addMeter) (maxL := 2) (ret := (some .int)) (by decide) rfl ?_
  intro p e s m args below meth c s₁ B hml hv
  obtain ⟨rfl, hK, hH⟩ := hv
  have hx := B.exec
  have hb := B.bytes
  have hr := B.returns
  have hts := atoms_spec (ws := wsX2_addMeter) B.pre
  have hown : s.vm.findClass RX2 = some m.cls := findClass_of_methodNamed B.named
  have hlocks := B.notSynchronized
  have S : CallFix p m c cX2_addMeter 2 s (([.ref (a 0), .int (zI k)] : List Value)).toArray wsX2_addMeter RX2 := ⟨hx, hb, hml, hown, hts⟩
  have hin2 : ∀ w ∈ wsX20, w ∈ wsX2_addMeter := by decide +kernel
  have hl := lv_entry ([.ref (a 0), .int (zI k)]) (n := 2) (Nat.le_of_ble_eq_true rfl)
  rw [lg_entry_eq]
  generalize (lg_sl ([.ref (a 0), .int (zI k)]) ++ List.replicate (2 - (lg_sl ([.ref (a 0), .int (zI k)])).length) Slot.unset).toArray = ls at hl ⊢
  have hl : lv_has ls 2 [(0, .ref (a 0)), (1, .int (zI k))] := hl
  unfold wnM at hn
  refine lv_aload_n hx hb dX2_addMeter_0 rfl (lv_at hl 0 rfl) ?_
  refine h_g_meterCount S hin2 hK (hAt_hs hH) (hts (.fieldLink RX2 32 "EnergyDiscs$House" "meterCount" "I") (by decide +kernel)) dX2_addMeter_1 ?_
  refine x_if_le (tgt := 17) hx hb dX2_addMeter_4 (by decide) (by omega) (fun c_4 => ?_) (fun c_4 => ?_)
  · refine lv_aload_n hx hb dX2_addMeter_17 rfl (lv_at hl 0 rfl) ?_
    refine h_g_meterCount S hin2 hK (hAt_hs hH) (hts (.fieldLink RX2 32 "EnergyDiscs$House" "meterCount" "I") (by decide +kernel)) dX2_addMeter_18 ?_
    refine x_bipush hx hb dX2_addMeter_21 (by decide +kernel) ?_
    refine x_icmp_lt (tgt := 29) hx hb dX2_addMeter_23 (by decide) (by omega) (by omega) (fun c_23 => ?_) (fun c_23 => ?_)
    · exfalso; repeat' split at hn <;> omega
    · refine x_bipush hx hb dX2_addMeter_26 (by decide +kernel) ?_
      exact x_iretR hx hb hr hlocks (by first | (exfalso; omega) | skip; unfold wnM; repeat (first | rw [if_pos (by omega)] | rw [if_neg (by omega)])) rfl dX2_addMeter_28
  · refine lv_aload_n hx hb dX2_addMeter_7 rfl (lv_at hl 0 rfl) ?_
    refine lv_iload_n hx hb dX2_addMeter_8 rfl (lv_at hl 1 rfl) ?_
    by_cases z_9 : 0 ≤ k ∧ k < τ 7
    · refine x_callVR (As := [.int (zI k)]) (rest := []) S hK (c_X2_meterAt_ok l D cs a τ k (by omega) (by omega)) (cwV 1 hts gX2_addMeter_X2_meterAt rfl rfl rfl (by decide +kernel) ⟨(Nat.le_of_ble_eq_true rfl), (Nat.le_of_ble_eq_true rfl)⟩) (x_rc hK (hsAt_0 (hAt_hs hH)) rfl) hH rfl hl.1 (Nat.le_of_ble_eq_true rfl) dX2_addMeter_9 ⟨Nat.zero_le _, Nat.zero_le _⟩ ?_
      refine lv_ifnonnull (tgt := 17) hx hb dX2_addMeter_12 (by decide) ?_
      refine lv_aload_n hx hb dX2_addMeter_17 rfl (lv_at hl 0 rfl) ?_
      refine h_g_meterCount S hin2 hK (hAt_hs hH) (hts (.fieldLink RX2 32 "EnergyDiscs$House" "meterCount" "I") (by decide +kernel)) dX2_addMeter_18 ?_
      refine x_bipush hx hb dX2_addMeter_21 (by decide +kernel) ?_
      refine x_icmp_lt (tgt := 29) hx hb dX2_addMeter_23 (by decide) (by omega) (by omega) (fun c_23 => ?_) (fun c_23 => ?_)
      · exfalso; repeat' split at hn <;> omega
      · refine x_bipush hx hb dX2_addMeter_26 (by decide +kernel) ?_
        exact x_iretR hx hb hr hlocks (by first | (exfalso; omega) | skip; unfold wnM; repeat (first | rw [if_pos (by omega)] | rw [if_neg (by omega)])) rfl dX2_addMeter_28
    · refine x_callVR (As := [.int (zI k)]) (rest := []) S hK (c_X2_meterAt_no l D cs a τ k (by omega) (by omega) (by omega)) (cwV 1 hts gX2_addMeter_X2_meterAt rfl rfl rfl (by decide +kernel) ⟨(Nat.le_of_ble_eq_true rfl), (Nat.le_of_ble_eq_true rfl)⟩) (x_rc hK (hsAt_0 (hAt_hs hH)) rfl) hH rfl hl.1 (Nat.le_of_ble_eq_true rfl) dX2_addMeter_9 ⟨Nat.zero_le _, Nat.zero_le _⟩ ?_
      refine lv_ifnonnullN hx hb dX2_addMeter_12 ?_
      refine x_iconst hx hb dX2_addMeter_15 ?_
      exact x_iretR hx hb hr hlocks (by first | (exfalso; omega) | skip; unfold wnM; repeat (first | rw [if_pos (by omega)] | rw [if_neg (by omega)])) rfl dX2_addMeter_16
set_option maxHeartbeats 4000000 in
set_option maxRecDepth 100000 in
theorem c_X2_addMeter_ok (l : Launch) (D : va_G) (cs : Nat → ClassId) (a : Int → Nat) (τ : Int → Int) (k : Int) (h7 : 0 ≤ τ 7 ∧ τ 7 ≤ 7) (hk : -2147483648 ≤ k ∧ k < 2147483648) (hn : wnM τ k = 0) (hI : hI23 a) : kM D cs l yX2_addMeter wsX2_addMeter ({ frames := 1, cells := 0, slots := 0, locals := 22 } : Room) [.ref (a 0), .int (zI k)] (fun H => hAt D cs a τ H) (some (.int (zI (τ 7)))) (fun H => hAt D cs a (amF τ k) H) (hC23 a) := by
  refine Met.ofW (cc := cX2_addMeter) (maxL := 2) (ret := (some .int)) (by decide) rfl ?_
  intro p e s m args below meth c s₁ B hml hv
  obtain ⟨rfl, hK, hH⟩ := hv
  have hx := B.exec
  have hb := B.bytes
  have hr := B.returns
  have hts := atoms_spec (ws := wsX2_addMeter) B.pre
  have hown : s.vm.findClass RX2 = some m.cls := findClass_of_methodNamed B.named
  have hlocks := B.notSynchronized
  have S : CallFix p m c cX2_addMeter 2 s (([.ref (a 0), .int (zI k)] : List Value)).toArray wsX2_addMeter RX2 := ⟨hx, hb, hml, hown, hts⟩
  have hin2 : ∀ w ∈ wsX20, w ∈ wsX2_addMeter := by decide +kernel
  have hS : va_S (hC23 a) s.heap s.heap [] := va_S.rf
  have hl := lv_entry ([.ref (a 0), .int (zI k)]) (n := 2) (Nat.le_of_ble_eq_true rfl)
  rw [lg_entry_eq]
  generalize (lg_sl ([.ref (a 0), .int (zI k)]) ++ List.replicate (2 - (lg_sl ([.ref (a 0), .int (zI k)])).length) Slot.unset).toArray = ls at hl ⊢
  have hl : lv_has ls 2 [(0, .ref (a 0)), (1, .int (zI k))] := hl
  have hw := wnM_0 hn h7
  refine lv_aload_n hx hb dX2_addMeter_0 rfl (lv_at hl 0 rfl) ?_
  refine h_g_meterCount S hin2 hK (hAt_hs hH) (hts (.fieldLink RX2 32 "EnergyDiscs$House" "meterCount" "I") (by decide +kernel)) dX2_addMeter_1 ?_
  refine x_if_le (tgt := 17) hx hb dX2_addMeter_4 (by decide) (by omega) (fun c_4 => ?_) (fun c_4 => ?_)
  · refine lv_aload_n hx hb dX2_addMeter_17 rfl (lv_at hl 0 rfl) ?_
    refine h_g_meterCount S hin2 hK (hAt_hs hH) (hts (.fieldLink RX2 32 "EnergyDiscs$House" "meterCount" "I") (by decide +kernel)) dX2_addMeter_18 ?_
    refine x_bipush hx hb dX2_addMeter_21 (by decide +kernel) ?_
    refine x_icmp_lt (tgt := 29) hx hb dX2_addMeter_23 (by decide) (by omega) (by omega) (fun c_23 => ?_) (fun c_23 => ?_)
    · refine lv_aload_n hx hb dX2_addMeter_29 rfl (lv_at hl 0 rfl) ?_
      refine lv_dup hx hb dX2_addMeter_30 rfl ?_
      refine h_g_greatestSeal S hin2 hK (hAt_hs hH) (hts (.fieldLink RX2 49 "EnergyDiscs$House" "greatestSeal" "I") (by decide +kernel)) dX2_addMeter_31 ?_
      refine x_iconst hx hb dX2_addMeter_34 ?_
      refine x_iadd hx hb dX2_addMeter_35 ?_
      refine h_p_greatestSeal S hin2 hK hH hI hS (bC_of (by decide) (by decide)) (hts (.fieldLink RX2 49 "EnergyDiscs$House" "greatestSeal" "I") (by decide +kernel)) dX2_addMeter_36 (fun H locs hH hF hS => ?_)
      have e7 : up τ 10 (τ 10 + 1) 7 = τ 7 := up_n (by decide)
      refine lv_aload_n hx hb dX2_addMeter_39 rfl (lv_at hl 0 rfl) ?_
      refine h_g_meters S hin2 hK (hAt_hs hH) (hts (.fieldLink RX2 17 "EnergyDiscs$House" "meters" "[LEnergyDiscs$Meter;") (by decide +kernel)) dX2_addMeter_40 ?_
      refine lv_aload_n hx hb dX2_addMeter_43 rfl (lv_at hl 0 rfl) ?_
      refine h_g_meterCount S hin2 hK (hAt_hs hH) (hts (.fieldLink RX2 32 "EnergyDiscs$House" "meterCount" "I") (by decide +kernel)) dX2_addMeter_44 ?_
      rw [show ((up τ 10 ((τ 10) + 1)) 7 : Int) = τ 7 from by exact up_n (by decide)]
      refine h_l_meters S hK hH (by omega) dX2_addMeter_47 ?_
      refine lv_aload_n hx hb dX2_addMeter_48 rfl (lv_at hl 0 rfl) ?_
      refine h_g_meterCount S hin2 hK (hAt_hs hH) (hts (.fieldLink RX2 32 "EnergyDiscs$House" "meterCount" "I") (by decide +kernel)) dX2_addMeter_49 ?_
      refine x_if_ne (tgt := 60) hx hb dX2_addMeter_52 (by decide) (by omega) (fun c_52 => ?_) (fun c_52 => ?_)
      · refine lv_iload_n hx hb dX2_addMeter_60 rfl (lv_at hl 1 rfl) ?_
        refine lv_aload_n hx hb dX2_addMeter_61 rfl (lv_at hl 0 rfl) ?_
        refine h_g_greatestSeal S hin2 hK (hAt_hs hH) (hts (.fieldLink RX2 49 "EnergyDiscs$House" "greatestSeal" "I") (by decide +kernel)) dX2_addMeter_62 ?_
        rw [show ((up τ 10 ((τ 10) + 1)) 10 : Int) = τ 10 + 1 from by exact up_s _ _ _]
        refine x_callVMn (As := [.int (zI k), .int (zI (τ 10 + 1))]) (rest := []) S hK (c_X4_begin l D cs (a (4 + τ 7)) (mrec (up τ 10 ((τ 10) + 1)) (τ 7)) k (τ 10 + 1) ) (cwV 2 hts gX2_addMeter_X4_begin rfl rfl rfl (by decide +kernel) ⟨(Nat.le_of_ble_eq_true rfl), (Nat.le_of_ble_eq_true rfl)⟩) (x_rc hK (hAt_m hH (e := τ 7) (by omega)) rfl) (hAt_m hH (e := τ 7) (by omega)) rfl hl.1 (Nat.le_of_ble_eq_true rfl) dX2_addMeter_65 ⟨Nat.zero_le _, Nat.zero_le _⟩ hS (hC_m (by omega)) (fun H locs hB hF hS => ?_)
        have hH : hAt D cs a (inM (up τ 10 ((τ 10) + 1)) (τ 7) (bgM k (τ 10 + 1))) H := hAt_setM hH hI (by omega) hB hF
        have hH : hAt D cs a (inM (up τ 10 (τ 10 + 1)) (τ 7) (bgM (if τ 7 = 0 then -6 else k) (τ 10 + 1))) H := hAt_cong hH (by first | (exfalso; omega) | (rw [show (if τ 7 = 0 then (-6 : Int) else k) = _ from (by first | exact if_pos (by omega) | exact if_neg (by omega))]; exact hEq_rfl _))
        have e7b := inM_out (τ := up τ 10 (τ 10 + 1)) (e := τ 7) (f := bgM (if τ 7 = 0 then -6 else k) (τ 10 + 1)) (i := 7) (by omega)
        refine lv_aload_n hx hb dX2_addMeter_68 rfl (lv_at hl 0 rfl) ?_
        refine lv_dup hx hb dX2_addMeter_69 rfl ?_
        refine h_g_meterCount S hin2 hK (hAt_hs hH) (hts (.fieldLink RX2 32 "EnergyDiscs$House" "meterCount" "I") (by decide +kernel)) dX2_addMeter_70 ?_
        rw [show ((inM (up τ 10 (τ 10 + 1)) (τ 7) (bgM (if τ 7 = 0 then -6 else k) (τ 10 + 1))) 7 : Int) = τ 7 from by rw [e7b, e7]]
        refine x_iconst hx hb dX2_addMeter_73 ?_
        refine x_iadd hx hb dX2_addMeter_74 ?_
        refine h_p_meterCount S hin2 hK hH hI hS (bC_of (by decide) (by decide)) (hts (.fieldLink RX2 32 "EnergyDiscs$House" "meterCount" "I") (by decide +kernel)) dX2_addMeter_75 (fun H locs hH hF hS => ?_)
        have hH : hAt D cs a (amF τ k) H := hH
        refine lv_aload_n hx hb dX2_addMeter_78 rfl (lv_at hl 0 rfl) ?_
        refine h_g_meterCount S hin2 hK (hAt_hs hH) (hts (.fieldLink RX2 32 "EnergyDiscs$House" "meterCount" "I") (by decide +kernel)) dX2_addMeter_79 ?_
        rw [show ((amF τ k) 7 : Int) = τ 7 + 1 from by exact up_s _ _ _]
        refine x_iconst hx hb dX2_addMeter_82 ?_
        refine x_isub hx hb dX2_addMeter_83 ?_
        exact x_iretM hx hb hr hlocks (by omega) hH hS dX2_addMeter_84
      · refine x_bipush hx hb dX2_addMeter_55 (by decide +kernel) ?_
        refine lv_goto (tgt := 61) hx hb dX2_addMeter_57 (by decide) ?_
        refine lv_aload_n hx hb dX2_addMeter_61 rfl (lv_at hl 0 rfl) ?_
        refine h_g_greatestSeal S hin2 hK (hAt_hs hH) (hts (.fieldLink RX2 49 "EnergyDiscs$House" "greatestSeal" "I") (by decide +kernel)) dX2_addMeter_62 ?_
        rw [show ((up τ 10 ((τ 10) + 1)) 10 : Int) = τ 10 + 1 from by exact up_s _ _ _]
        refine x_callVMn (As := [.int (zI ((-6))), .int (zI (τ 10 + 1))]) (rest := []) S hK (c_X4_begin l D cs (a (4 + τ 7)) (mrec (up τ 10 ((τ 10) + 1)) (τ 7)) ((-6)) (τ 10 + 1) ) (cwV 2 hts gX2_addMeter_X4_begin rfl rfl rfl (by decide +kernel) ⟨(Nat.le_of_ble_eq_true rfl), (Nat.le_of_ble_eq_true rfl)⟩) (x_rc hK (hAt_m hH (e := τ 7) (by omega)) rfl) (hAt_m hH (e := τ 7) (by omega)) rfl hl.1 (Nat.le_of_ble_eq_true rfl) dX2_addMeter_65 ⟨Nat.zero_le _, Nat.zero_le _⟩ hS (hC_m (by omega)) (fun H locs hB hF hS => ?_)
        have hH : hAt D cs a (inM (up τ 10 ((τ 10) + 1)) (τ 7) (bgM ((-6)) (τ 10 + 1))) H := hAt_setM hH hI (by omega) hB hF
        have hH : hAt D cs a (inM (up τ 10 (τ 10 + 1)) (τ 7) (bgM (if τ 7 = 0 then -6 else k) (τ 10 + 1))) H := hAt_cong hH (by first | (exfalso; omega) | (rw [show (if τ 7 = 0 then (-6 : Int) else k) = _ from (by first | exact if_pos (by omega) | exact if_neg (by omega))]; exact hEq_rfl _))
        have e7b := inM_out (τ := up τ 10 (τ 10 + 1)) (e := τ 7) (f := bgM (if τ 7 = 0 then -6 else k) (τ 10 + 1)) (i := 7) (by omega)
        refine lv_aload_n hx hb dX2_addMeter_68 rfl (lv_at hl 0 rfl) ?_
        refine lv_dup hx hb dX2_addMeter_69 rfl ?_
        refine h_g_meterCount S hin2 hK (hAt_hs hH) (hts (.fieldLink RX2 32 "EnergyDiscs$House" "meterCount" "I") (by decide +kernel)) dX2_addMeter_70 ?_
        rw [show ((inM (up τ 10 (τ 10 + 1)) (τ 7) (bgM (if τ 7 = 0 then -6 else k) (τ 10 + 1))) 7 : Int) = τ 7 from by rw [e7b, e7]]
        refine x_iconst hx hb dX2_addMeter_73 ?_
        refine x_iadd hx hb dX2_addMeter_74 ?_
        refine h_p_meterCount S hin2 hK hH hI hS (bC_of (by decide) (by decide)) (hts (.fieldLink RX2 32 "EnergyDiscs$House" "meterCount" "I") (by decide +kernel)) dX2_addMeter_75 (fun H locs hH hF hS => ?_)
        have hH : hAt D cs a (amF τ k) H := hH
        refine lv_aload_n hx hb dX2_addMeter_78 rfl (lv_at hl 0 rfl) ?_
        refine h_g_meterCount S hin2 hK (hAt_hs hH) (hts (.fieldLink RX2 32 "EnergyDiscs$House" "meterCount" "I") (by decide +kernel)) dX2_addMeter_79 ?_
        rw [show ((amF τ k) 7 : Int) = τ 7 + 1 from by exact up_s _ _ _]
        refine x_iconst hx hb dX2_addMeter_82 ?_
        refine x_isub hx hb dX2_addMeter_83 ?_
        exact x_iretM hx hb hr hlocks (by omega) hH hS dX2_addMeter_84
    · exfalso; omega
  · refine lv_aload_n hx hb dX2_addMeter_7 rfl (lv_at hl 0 rfl) ?_
    refine lv_iload_n hx hb dX2_addMeter_8 rfl (lv_at hl 1 rfl) ?_
    by_cases z_9 : 0 ≤ k ∧ k < τ 7
    · refine x_callVR (As := [.int (zI k)]) (rest := []) S hK (c_X2_meterAt_ok l D cs a τ k (by omega) (by omega)) (cwV 1 hts gX2_addMeter_X2_meterAt rfl rfl rfl (by decide +kernel) ⟨(Nat.le_of_ble_eq_true rfl), (Nat.le_of_ble_eq_true rfl)⟩) (x_rc hK (hsAt_0 (hAt_hs hH)) rfl) hH rfl hl.1 (Nat.le_of_ble_eq_true rfl) dX2_addMeter_9 ⟨Nat.zero_le _, Nat.zero_le _⟩ ?_
      refine lv_ifnonnull (tgt := 17) hx hb dX2_addMeter_12 (by decide) ?_
      refine lv_aload_n hx hb dX2_addMeter_17 rfl (lv_at hl 0 rfl) ?_
      refine h_g_meterCount S hin2 hK (hAt_hs hH) (hts (.fieldLink RX2 32 "EnergyDiscs$House" "meterCount" "I") (by decide +kernel)) dX2_addMeter_18 ?_
      refine x_bipush hx hb dX2_addMeter_21 (by decide +kernel) ?_
      refine x_icmp_lt (tgt := 29) hx hb dX2_addMeter_23 (by decide) (by omega) (by omega) (fun c_23 => ?_) (fun c_23 => ?_)
      · refine lv_aload_n hx hb dX2_addMeter_29 rfl (lv_at hl 0 rfl) ?_
        refine lv_dup hx hb dX2_addMeter_30 rfl ?_
        refine h_g_greatestSeal S hin2 hK (hAt_hs hH) (hts (.fieldLink RX2 49 "EnergyDiscs$House" "greatestSeal" "I") (by decide +kernel)) dX2_addMeter_31 ?_
        refine x_iconst hx hb dX2_addMeter_34 ?_
        refine x_iadd hx hb dX2_addMeter_35 ?_
        refine h_p_greatestSeal S hin2 hK hH hI hS (bC_of (by decide) (by decide)) (hts (.fieldLink RX2 49 "EnergyDiscs$House" "greatestSeal" "I") (by decide +kernel)) dX2_addMeter_36 (fun H locs hH hF hS => ?_)
        have e7 : up τ 10 (τ 10 + 1) 7 = τ 7 := up_n (by decide)
        refine lv_aload_n hx hb dX2_addMeter_39 rfl (lv_at hl 0 rfl) ?_
        refine h_g_meters S hin2 hK (hAt_hs hH) (hts (.fieldLink RX2 17 "EnergyDiscs$House" "meters" "[LEnergyDiscs$Meter;") (by decide +kernel)) dX2_addMeter_40 ?_
        refine lv_aload_n hx hb dX2_addMeter_43 rfl (lv_at hl 0 rfl) ?_
        refine h_g_meterCount S hin2 hK (hAt_hs hH) (hts (.fieldLink RX2 32 "EnergyDiscs$House" "meterCount" "I") (by decide +kernel)) dX2_addMeter_44 ?_
        rw [show ((up τ 10 ((τ 10) + 1)) 7 : Int) = τ 7 from by exact up_n (by decide)]
        refine h_l_meters S hK hH (by omega) dX2_addMeter_47 ?_
        refine lv_aload_n hx hb dX2_addMeter_48 rfl (lv_at hl 0 rfl) ?_
        refine h_g_meterCount S hin2 hK (hAt_hs hH) (hts (.fieldLink RX2 32 "EnergyDiscs$House" "meterCount" "I") (by decide +kernel)) dX2_addMeter_49 ?_
        refine x_if_ne (tgt := 60) hx hb dX2_addMeter_52 (by decide) (by omega) (fun c_52 => ?_) (fun c_52 => ?_)
        · refine lv_iload_n hx hb dX2_addMeter_60 rfl (lv_at hl 1 rfl) ?_
          refine lv_aload_n hx hb dX2_addMeter_61 rfl (lv_at hl 0 rfl) ?_
          refine h_g_greatestSeal S hin2 hK (hAt_hs hH) (hts (.fieldLink RX2 49 "EnergyDiscs$House" "greatestSeal" "I") (by decide +kernel)) dX2_addMeter_62 ?_
          rw [show ((up τ 10 ((τ 10) + 1)) 10 : Int) = τ 10 + 1 from by exact up_s _ _ _]
          refine x_callVMn (As := [.int (zI k), .int (zI (τ 10 + 1))]) (rest := []) S hK (c_X4_begin l D cs (a (4 + τ 7)) (mrec (up τ 10 ((τ 10) + 1)) (τ 7)) k (τ 10 + 1) ) (cwV 2 hts gX2_addMeter_X4_begin rfl rfl rfl (by decide +kernel) ⟨(Nat.le_of_ble_eq_true rfl), (Nat.le_of_ble_eq_true rfl)⟩) (x_rc hK (hAt_m hH (e := τ 7) (by omega)) rfl) (hAt_m hH (e := τ 7) (by omega)) rfl hl.1 (Nat.le_of_ble_eq_true rfl) dX2_addMeter_65 ⟨Nat.zero_le _, Nat.zero_le _⟩ hS (hC_m (by omega)) (fun H locs hB hF hS => ?_)
          have hH : hAt D cs a (inM (up τ 10 ((τ 10) + 1)) (τ 7) (bgM k (τ 10 + 1))) H := hAt_setM hH hI (by omega) hB hF
          have hH : hAt D cs a (inM (up τ 10 (τ 10 + 1)) (τ 7) (bgM (if τ 7 = 0 then -6 else k) (τ 10 + 1))) H := hAt_cong hH (by first | (exfalso; omega) | (rw [show (if τ 7 = 0 then (-6 : Int) else k) = _ from (by first | exact if_pos (by omega) | exact if_neg (by omega))]; exact hEq_rfl _))
          have e7b := inM_out (τ := up τ 10 (τ 10 + 1)) (e := τ 7) (f := bgM (if τ 7 = 0 then -6 else k) (τ 10 + 1)) (i := 7) (by omega)
          refine lv_aload_n hx hb dX2_addMeter_68 rfl (lv_at hl 0 rfl) ?_
          refine lv_dup hx hb dX2_addMeter_69 rfl ?_
          refine h_g_meterCount S hin2 hK (hAt_hs hH) (hts (.fieldLink RX2 32 "EnergyDiscs$House" "meterCount" "I") (by decide +kernel)) dX2_addMeter_70 ?_
          rw [show ((inM (up τ 10 (τ 10 + 1)) (τ 7) (bgM (if τ 7 = 0 then -6 else k) (τ 10 + 1))) 7 : Int) = τ 7 from by rw [e7b, e7]]
          refine x_iconst hx hb dX2_addMeter_73 ?_
          refine x_iadd hx hb dX2_addMeter_74 ?_
          refine h_p_meterCount S hin2 hK hH hI hS (bC_of (by decide) (by decide)) (hts (.fieldLink RX2 32 "EnergyDiscs$House" "meterCount" "I") (by decide +kernel)) dX2_addMeter_75 (fun H locs hH hF hS => ?_)
          have hH : hAt D cs a (amF τ k) H := hH
          refine lv_aload_n hx hb dX2_addMeter_78 rfl (lv_at hl 0 rfl) ?_
          refine h_g_meterCount S hin2 hK (hAt_hs hH) (hts (.fieldLink RX2 32 "EnergyDiscs$House" "meterCount" "I") (by decide +kernel)) dX2_addMeter_79 ?_
          rw [show ((amF τ k) 7 : Int) = τ 7 + 1 from by exact up_s _ _ _]
          refine x_iconst hx hb dX2_addMeter_82 ?_
          refine x_isub hx hb dX2_addMeter_83 ?_
          exact x_iretM hx hb hr hlocks (by omega) hH hS dX2_addMeter_84
        · refine x_bipush hx hb dX2_addMeter_55 (by decide +kernel) ?_
          refine lv_goto (tgt := 61) hx hb dX2_addMeter_57 (by decide) ?_
          refine lv_aload_n hx hb dX2_addMeter_61 rfl (lv_at hl 0 rfl) ?_
          refine h_g_greatestSeal S hin2 hK (hAt_hs hH) (hts (.fieldLink RX2 49 "EnergyDiscs$House" "greatestSeal" "I") (by decide +kernel)) dX2_addMeter_62 ?_
          rw [show ((up τ 10 ((τ 10) + 1)) 10 : Int) = τ 10 + 1 from by exact up_s _ _ _]
          refine x_callVMn (As := [.int (zI ((-6))), .int (zI (τ 10 + 1))]) (rest := []) S hK (c_X4_begin l D cs (a (4 + τ 7)) (mrec (up τ 10 ((τ 10) + 1)) (τ 7)) ((-6)) (τ 10 + 1) ) (cwV 2 hts gX2_addMeter_X4_begin rfl rfl rfl (by decide +kernel) ⟨(Nat.le_of_ble_eq_true rfl), (Nat.le_of_ble_eq_true rfl)⟩) (x_rc hK (hAt_m hH (e := τ 7) (by omega)) rfl) (hAt_m hH (e := τ 7) (by omega)) rfl hl.1 (Nat.le_of_ble_eq_true rfl) dX2_addMeter_65 ⟨Nat.zero_le _, Nat.zero_le _⟩ hS (hC_m (by omega)) (fun H locs hB hF hS => ?_)
          have hH : hAt D cs a (inM (up τ 10 ((τ 10) + 1)) (τ 7) (bgM ((-6)) (τ 10 + 1))) H := hAt_setM hH hI (by omega) hB hF
          have hH : hAt D cs a (inM (up τ 10 (τ 10 + 1)) (τ 7) (bgM (if τ 7 = 0 then -6 else k) (τ 10 + 1))) H := hAt_cong hH (by first | (exfalso; omega) | (rw [show (if τ 7 = 0 then (-6 : Int) else k) = _ from (by first | exact if_pos (by omega) | exact if_neg (by omega))]; exact hEq_rfl _))
          have e7b := inM_out (τ := up τ 10 (τ 10 + 1)) (e := τ 7) (f := bgM (if τ 7 = 0 then -6 else k) (τ 10 + 1)) (i := 7) (by omega)
          refine lv_aload_n hx hb dX2_addMeter_68 rfl (lv_at hl 0 rfl) ?_
          refine lv_dup hx hb dX2_addMeter_69 rfl ?_
          refine h_g_meterCount S hin2 hK (hAt_hs hH) (hts (.fieldLink RX2 32 "EnergyDiscs$House" "meterCount" "I") (by decide +kernel)) dX2_addMeter_70 ?_
          rw [show ((inM (up τ 10 (τ 10 + 1)) (τ 7) (bgM (if τ 7 = 0 then -6 else k) (τ 10 + 1))) 7 : Int) = τ 7 from by rw [e7b, e7]]
          refine x_iconst hx hb dX2_addMeter_73 ?_
          refine x_iadd hx hb dX2_addMeter_74 ?_
          refine h_p_meterCount S hin2 hK hH hI hS (bC_of (by decide) (by decide)) (hts (.fieldLink RX2 32 "EnergyDiscs$House" "meterCount" "I") (by decide +kernel)) dX2_addMeter_75 (fun H locs hH hF hS => ?_)
          have hH : hAt D cs a (amF τ k) H := hH
          refine lv_aload_n hx hb dX2_addMeter_78 rfl (lv_at hl 0 rfl) ?_
          refine h_g_meterCount S hin2 hK (hAt_hs hH) (hts (.fieldLink RX2 32 "EnergyDiscs$House" "meterCount" "I") (by decide +kernel)) dX2_addMeter_79 ?_
          rw [show ((amF τ k) 7 : Int) = τ 7 + 1 from by exact up_s _ _ _]
          refine x_iconst hx hb dX2_addMeter_82 ?_
          refine x_isub hx hb dX2_addMeter_83 ?_
          exact x_iretM hx hb hr hlocks (by omega) hH hS dX2_addMeter_84
      · exfalso; omega
    · exfalso; omega
set_option maxHeartbeats 4000000 in
set_option maxRecDepth 100000 in
theorem c_X2_addLoad_bad (l : Launch) (D : va_G) (cs : Nat → ClassId) (a : Int → Nat) (τ : Int → Int) (k : Int) (w : Int) (h7 : 0 ≤ τ 7 ∧ τ 7 ≤ 7) (h8 : 0 ≤ τ 8 ∧ τ 8 ≤ 12) (hk : -2147483648 ≤ k ∧ k < 2147483648) (hw : -2147483648 ≤ w ∧ w < 2147483648) (hn : wnL τ k w < 0) : kR D cs l yX2_addLoad wsX2_addLoad ({ frames := 1, cells := 0, slots := 0, locals := 22 } : Room) [.ref (a 0), .int (zI k), .int (zI w)] (fun H => hAt D cs a τ H) (some (.int (zI (wnL τ k w)))) := by
  refine Met.ofW (cc := cX2_addLoad) (maxL := 3) (ret := (some .int)) (by decide) rfl ?_
  intro p e s m args below meth c s₁ B hml hv
  obtain ⟨rfl, hK, hH⟩ := hv
  have hx := B.exec
  have hb := B.bytes
  have hr := B.returns
  have hts := atoms_spec (ws := wsX2_addLoad) B.pre
  have hown : s.vm.findClass RX2 = some m.cls := findClass_of_methodNamed B.named
  have hlocks := B.notSynchronized
  have S : CallFix p m c cX2_addLoad 3 s (([.ref (a 0), .int (zI k), .int (zI w)] : List Value)).toArray wsX2_addLoad RX2 := ⟨hx, hb, hml, hown, hts⟩
  have hin2 : ∀ w ∈ wsX20, w ∈ wsX2_addLoad := by decide +kernel
  have hl := lv_entry ([.ref (a 0), .int (zI k), .int (zI w)]) (n := 3) (Nat.le_of_ble_eq_true rfl)
  rw [lg_entry_eq]
  generalize (lg_sl ([.ref (a 0), .int (zI k), .int (zI w)]) ++ List.replicate (3 - (lg_sl ([.ref (a 0), .int (zI k), .int (zI w)])).length) Slot.unset).toArray = ls at hl ⊢
  have hl : lv_has ls 3 [(0, .ref (a 0)), (1, .int (zI k)), (2, .int (zI w))] := hl
  unfold wnL at hn
  refine lv_aload_n hx hb dX2_addLoad_0 rfl (lv_at hl 0 rfl) ?_
  refine lv_iload_n hx hb dX2_addLoad_1 rfl (lv_at hl 1 rfl) ?_
  by_cases z_2 : 0 ≤ k ∧ k < τ 7
  · refine x_callVR (As := [.int (zI k)]) (rest := []) S hK (c_X2_meterAt_ok l D cs a τ k (by omega) (by omega)) (cwV 1 hts gX2_addLoad_X2_meterAt rfl rfl rfl (by decide +kernel) ⟨(Nat.le_of_ble_eq_true rfl), (Nat.le_of_ble_eq_true rfl)⟩) (x_rc hK (hsAt_0 (hAt_hs hH)) rfl) hH rfl hl.1 (Nat.le_of_ble_eq_true rfl) dX2_addLoad_2 ⟨Nat.zero_le _, Nat.zero_le _⟩ ?_
    refine lv_ifnonnull (tgt := 10) hx hb dX2_addLoad_5 (by decide) ?_
    refine lv_iload_n hx hb dX2_addLoad_10 rfl (lv_at hl 2 rfl) ?_
    refine x_iconst hx hb dX2_addLoad_11 ?_
    refine x_icmp_lt (tgt := 22) hx hb dX2_addLoad_12 (by decide) (by omega) (by omega) (fun c_12 => ?_) (fun c_12 => ?_)
    · refine x_bipush hx hb dX2_addLoad_22 (by decide +kernel) ?_
      exact x_iretR hx hb hr hlocks (by unfold wnL; repeat (first | rw [if_pos (by omega)] | rw [if_neg (by omega)])) rfl dX2_addLoad_24
    · refine lv_iload_n hx hb dX2_addLoad_15 rfl (lv_at hl 2 rfl) ?_
      refine x_sipush hx hb dX2_addLoad_16 (by decide +kernel) ?_
      refine x_icmp_le (tgt := 25) hx hb dX2_addLoad_19 (by decide) (by omega) (by omega) (fun c_19 => ?_) (fun c_19 => ?_)
      · refine lv_aload_n hx hb dX2_addLoad_25 rfl (lv_at hl 0 rfl) ?_
        refine h_g_loadCount S hin2 hK (hAt_hs hH) (hts (.fieldLink RX2 40 "EnergyDiscs$House" "loadCount" "I") (by decide +kernel)) dX2_addLoad_26 ?_
        refine x_bipush hx hb dX2_addLoad_29 (by decide +kernel) ?_
        refine x_icmp_lt (tgt := 37) hx hb dX2_addLoad_31 (by decide) (by omega) (by omega) (fun c_31 => ?_) (fun c_31 => ?_)
        · exfalso; repeat' split at hn <;> omega
        · refine x_bipush hx hb dX2_addLoad_34 (by decide +kernel) ?_
          exact x_iretR hx hb hr hlocks (by unfold wnL; repeat (first | rw [if_pos (by omega)] | rw [if_neg (by omega)])) rfl dX2_addLoad_36
      · refine x_bipush hx hb dX2_addLoad_22 (by decide +kernel) ?_
        exact x_iretR hx hb hr hlocks (by unfold wnL; repeat (first | rw [if_pos (by omega)] | rw [if_neg (by omega)])) rfl dX2_addLoad_24
  · refine x_callVR (As := [.int (zI k)]) (rest := []) S hK (c_X2_meterAt_no l D cs a τ k (by omega) (by omega) (by omega)) (cwV 1 hts gX2_addLoad_X2_meterAt rfl rfl rfl (by decide +kernel) ⟨(Nat.le_of_ble_eq_true rfl), (Nat.le_of_ble_eq_true rfl)⟩) (x_rc hK (hsAt_0 (hAt_hs hH)) rfl) hH rfl hl.1 (Nat.le_of_ble_eq_true rfl) dX2_addLoad_2 ⟨Nat.zero_le _, Nat.zero_le _⟩ ?_
    refine lv_ifnonnullN hx hb dX2_addLoad_5 ?_
    refine x_iconst hx hb dX2_addLoad_8 ?_
    exact x_iretR hx hb hr hlocks (by unfold wnL; repeat (first | rw [if_pos (by omega)] | rw [if_neg (by omega)])) rfl dX2_addLoad_9
set_option maxHeartbeats 4000000 in
set_option maxRecDepth 100000 in
theorem c_X2_addLoad_ok (l : Launch) (D : va_G) (cs : Nat → ClassId) (a : Int → Nat) (τ : Int → Int) (k : Int) (w : Int) (h7 : 0 ≤ τ 7 ∧ τ 7 ≤ 7) (h8 : 0 ≤ τ 8 ∧ τ 8 ≤ 12) (hk : -2147483648 ≤ k ∧ k < 2147483648) (hw : -2147483648 ≤ w ∧ w < 2147483648) (hn : wnL τ k w = 0) (hI : hI23 a) : kM D cs l yX2_addLoad wsX2_addLoad ({ frames := 1, cells := 0, slots := 0, locals := 22 } : Room) [.ref (a 0), .int (zI k), .int (zI w)] (fun H => hAt D cs a τ H) (some (.int (zI (τ 8)))) (fun H => hAt D cs a (alF τ k w) H) (hC23 a) := by
  refine Met.ofW (cc := cX2_addLoad) (maxL := 3) (ret := (some .int)) (by decide) rfl ?_
  intro p e s m args below meth c s₁ B hml hv
  obtain ⟨rfl, hK, hH⟩ := hv
  have hx := B.exec
  have hb := B.bytes
  have hr := B.returns
  have hts := atoms_spec (ws := wsX2_addLoad) B.pre
  have hown : s.vm.findClass RX2 = some m.cls := findClass_of_methodNamed B.named
  have hlocks := B.notSynchronized
  have S : CallFix p m c cX2_addLoad 3 s (([.ref (a 0), .int (zI k), .int (zI w)] : List Value)).toArray wsX2_addLoad RX2 := ⟨hx, hb, hml, hown, hts⟩
  have hin2 : ∀ w ∈ wsX20, w ∈ wsX2_addLoad := by decide +kernel
  have hS : va_S (hC23 a) s.heap s.heap [] := va_S.rf
  have hl := lv_entry ([.ref (a 0), .int (zI k), .int (zI w)]) (n := 3) (Nat.le_of_ble_eq_true rfl)
  rw [lg_entry_eq]
  generalize (lg_sl ([.ref (a 0), .int (zI k), .int (zI w)]) ++ List.replicate (3 - (lg_sl ([.ref (a 0), .int (zI k), .int (zI w)])).length) Slot.unset).toArray = ls at hl ⊢
  have hl : lv_has ls 3 [(0, .ref (a 0)), (1, .int (zI k)), (2, .int (zI w))] := hl
  have hwl := wnL_0 hn h8
  refine lv_aload_n hx hb dX2_addLoad_0 rfl (lv_at hl 0 rfl) ?_
  refine lv_iload_n hx hb dX2_addLoad_1 rfl (lv_at hl 1 rfl) ?_
  by_cases z_2 : 0 ≤ k ∧ k < τ 7
  · refine x_callVR (As := [.int (zI k)]) (rest := []) S hK (c_X2_meterAt_ok l D cs a τ k (by omega) (by omega)) (cwV 1 hts gX2_addLoad_X2_meterAt rfl rfl rfl (by decide +kernel) ⟨(Nat.le_of_ble_eq_true rfl), (Nat.le_of_ble_eq_true rfl)⟩) (x_rc hK (hsAt_0 (hAt_hs hH)) rfl) hH rfl hl.1 (Nat.le_of_ble_eq_true rfl) dX2_addLoad_2 ⟨Nat.zero_le _, Nat.zero_le _⟩ ?_
    refine lv_ifnonnull (tgt := 10) hx hb dX2_addLoad_5 (by decide) ?_
    refine lv_iload_n hx hb dX2_addLoad_10 rfl (lv_at hl 2 rfl) ?_
    refine x_iconst hx hb dX2_addLoad_11 ?_
    refine x_icmp_lt (tgt := 22) hx hb dX2_addLoad_12 (by decide) (by omega) (by omega) (fun c_12 => ?_) (fun c_12 => ?_)
    · exfalso; omega
    · refine lv_iload_n hx hb dX2_addLoad_15 rfl (lv_at hl 2 rfl) ?_
      refine x_sipush hx hb dX2_addLoad_16 (by decide +kernel) ?_
      refine x_icmp_le (tgt := 25) hx hb dX2_addLoad_19 (by decide) (by omega) (by omega) (fun c_19 => ?_) (fun c_19 => ?_)
      · refine lv_aload_n hx hb dX2_addLoad_25 rfl (lv_at hl 0 rfl) ?_
        refine h_g_loadCount S hin2 hK (hAt_hs hH) (hts (.fieldLink RX2 40 "EnergyDiscs$House" "loadCount" "I") (by decide +kernel)) dX2_addLoad_26 ?_
        refine x_bipush hx hb dX2_addLoad_29 (by decide +kernel) ?_
        refine x_icmp_lt (tgt := 37) hx hb dX2_addLoad_31 (by decide) (by omega) (by omega) (fun c_31 => ?_) (fun c_31 => ?_)
        · refine lv_aload_n hx hb dX2_addLoad_37 rfl (lv_at hl 0 rfl) ?_
          refine h_g_loads S hin2 hK (hAt_hs hH) (hts (.fieldLink RX2 23 "EnergyDiscs$House" "loads" "[LEnergyDiscs$Load;") (by decide +kernel)) dX2_addLoad_38 ?_
          refine lv_aload_n hx hb dX2_addLoad_41 rfl (lv_at hl 0 rfl) ?_
          refine h_g_loadCount S hin2 hK (hAt_hs hH) (hts (.fieldLink RX2 40 "EnergyDiscs$House" "loadCount" "I") (by decide +kernel)) dX2_addLoad_42 ?_
          refine h_l_loads S hK hH (by omega) dX2_addLoad_45 ?_
          refine lv_iload_n hx hb dX2_addLoad_46 rfl (lv_at hl 1 rfl) ?_
          refine lv_iload_n hx hb dX2_addLoad_47 rfl (lv_at hl 2 rfl) ?_
          refine x_callVMn (As := [.int (zI k), .int (zI w)]) (rest := []) S hK (c_X3_begin l D cs (a (11 + τ 8)) (lrec τ (τ 8)) k w ) (cwV 2 hts gX2_addLoad_X3_begin rfl rfl rfl (by decide +kernel) ⟨(Nat.le_of_ble_eq_true rfl), (Nat.le_of_ble_eq_true rfl)⟩) (x_rc hK (hAt_l hH (e := τ 8) (by omega)) rfl) (hAt_l hH (e := τ 8) (by omega)) rfl hl.1 (Nat.le_of_ble_eq_true rfl) dX2_addLoad_48 ⟨Nat.zero_le _, Nat.zero_le _⟩ hS (hC_l (by omega)) (fun H locs hB hF hS => ?_)
          have hH : hAt D cs a (inL τ (τ 8) (bgL k w)) H := hAt_setL hH hI (by omega) hB hF
          have e8 := inL_out (τ := τ) (e := τ 8) (f := bgL k w) (i := 8) (by omega)
          refine lv_aload_n hx hb dX2_addLoad_51 rfl (lv_at hl 0 rfl) ?_
          refine lv_dup hx hb dX2_addLoad_52 rfl ?_
          refine h_g_loadCount S hin2 hK (hAt_hs hH) (hts (.fieldLink RX2 40 "EnergyDiscs$House" "loadCount" "I") (by decide +kernel)) dX2_addLoad_53 ?_
          rw [show ((inL τ (τ 8) (bgL k w)) 8 : Int) = τ 8 from by exact e8]
          refine x_iconst hx hb dX2_addLoad_56 ?_
          refine x_iadd hx hb dX2_addLoad_57 ?_
          refine h_p_loadCount S hin2 hK hH hI hS (bC_of (by decide) (by decide)) (hts (.fieldLink RX2 40 "EnergyDiscs$House" "loadCount" "I") (by decide +kernel)) dX2_addLoad_58 (fun H locs hH hF hS => ?_)
          have hH : hAt D cs a (alF τ k w) H := hH
          refine lv_aload_n hx hb dX2_addLoad_61 rfl (lv_at hl 0 rfl) ?_
          refine h_g_loadCount S hin2 hK (hAt_hs hH) (hts (.fieldLink RX2 40 "EnergyDiscs$House" "loadCount" "I") (by decide +kernel)) dX2_addLoad_62 ?_
          rw [show ((alF τ k w) 8 : Int) = τ 8 + 1 from by exact up_s _ _ _]
          refine x_iconst hx hb dX2_addLoad_65 ?_
          refine x_isub hx hb dX2_addLoad_66 ?_
          exact x_iretM hx hb hr hlocks (by omega) hH hS dX2_addLoad_67
        · exfalso; omega
      · exfalso; omega
  · exfalso; omega
set_option maxHeartbeats 4000000 in
set_option maxRecDepth 100000 in
theorem c_X2_switchLoad_bad (l : Launch) (D : va_G) (cs : Nat → ClassId) (a : Int → Nat) (τ : Int → Int) (k : Int) (h8 : 0 ≤ τ 8 ∧ τ 8 ≤ 12) (hk : -2147483648 ≤ k ∧ k < 2147483648) (hn : ¬ (0 ≤ k ∧ k < τ 8)) : kR D cs l yX2_switchLoad wsX2_switchLoad ({ frames := 1, cells := 0, slots := 0, locals := 21 } : Room) [.ref (a 0), .int (zI k)] (fun H => hAt D cs a τ H) (some (.int (zI (-1)))) := by
  refine Met.ofW (cc := cX2_switchLoad) (maxL := 3) (ret := (some .int)) (by decide) rfl ?_
  intro p e s m args below meth c s₁ B hml hv
  obtain ⟨rfl, hK, hH⟩ := hv
  have hx := B.exec
  have hb := B.bytes
  have hr := B.returns
  have hts := atoms_spec (ws := wsX2_switchLoad) B.pre
  have hown : s.vm.findClass RX2 = some m.cls := findClass_of_methodNamed B.named
  have hlocks := B.notSynchronized
  have S : CallFix p m c cX2_switchLoad 3 s (([.ref (a 0), .int (zI k)] : List Value)).toArray wsX2_switchLoad RX2 := ⟨hx, hb, hml, hown, hts⟩
  have hin3 : ∀ w ∈ wsX30, w ∈ wsX2_switchLoad := by decide +kernel
  have hl := lv_entry ([.ref (a 0), .int (zI k)]) (n := 3) (Nat.le_of_ble_eq_true rfl)
  rw [lg_entry_eq]
  generalize (lg_sl ([.ref (a 0), .int (zI k)]) ++ List.replicate (3 - (lg_sl ([.ref (a 0), .int (zI k)])).length) Slot.unset).toArray = ls at hl ⊢
  have hl : lv_has ls 3 [(0, .ref (a 0)), (1, .int (zI k))] := hl
  refine lv_aload_n hx hb dX2_switchLoad_0 rfl (lv_at hl 0 rfl) ?_
  refine lv_iload_n hx hb dX2_switchLoad_1 rfl (lv_at hl 1 rfl) ?_
  by_cases z_2 : 0 ≤ k ∧ k < τ 8
  · exact absurd z_2 hn
  · refine x_callVR (As := [.int (zI k)]) (rest := []) S hK (c_X2_loadAt_no l D cs a τ k (by omega) (by omega) (by omega)) (cwV 1 hts gX2_switchLoad_X2_loadAt rfl rfl rfl (by decide +kernel) ⟨(Nat.le_of_ble_eq_true rfl), (Nat.le_of_ble_eq_true rfl)⟩) (x_rc hK (hsAt_0 (hAt_hs hH)) rfl) hH rfl hl.1 (Nat.le_of_ble_eq_true rfl) dX2_switchLoad_2 ⟨Nat.zero_le _, Nat.zero_le _⟩ ?_
    refine lv_astore_nN (lv' := [(2, .null), (0, .ref (a 0)), (1, .int (zI k))]) hx hb dX2_switchLoad_5 rfl hl (by decide) rfl (fun ls hl => ?_)
    refine lv_aload_nN hx hb dX2_switchLoad_6 rfl (lv_at hl 0 rfl) ?_
    refine lv_ifnonnullN hx hb dX2_switchLoad_7 ?_
    refine x_iconst hx hb dX2_switchLoad_10 ?_
    exact x_iretR hx hb hr hlocks (by first | rfl | omega) rfl dX2_switchLoad_11
set_option maxHeartbeats 4000000 in
set_option maxRecDepth 100000 in
theorem c_X2_switchLoad_ok (l : Launch) (D : va_G) (cs : Nat → ClassId) (a : Int → Nat) (τ : Int → Int) (k : Int) (h8 : 0 ≤ τ 8 ∧ τ 8 ≤ 12) (hk : 0 ≤ k ∧ k < τ 8) (h01 : τ (102 + 3 * k + 2) = 0 ∨ τ (102 + 3 * k + 2) = 1) (hI : hI23 a) : kM D cs l yX2_switchLoad wsX2_switchLoad ({ frames := 1, cells := 0, slots := 0, locals := 21 } : Room) [.ref (a 0), .int (zI k)] (fun H => hAt D cs a τ H) (some (.int (zI (if τ (102 + 3 * k + 2) = 0 then 1 else 0)))) (fun H => hAt D cs a (swF τ k) H) (hC23 a) := by
  refine Met.ofW (cc := cX2_switchLoad) (maxL := 3) (ret := (some .int)) (by decide) rfl ?_
  intro p e s m args below meth c s₁ B hml hv
  obtain ⟨rfl, hK, hH⟩ := hv
  have hx := B.exec
  have hb := B.bytes
  have hr := B.returns
  have hts := atoms_spec (ws := wsX2_switchLoad) B.pre
  have hown : s.vm.findClass RX2 = some m.cls := findClass_of_methodNamed B.named
  have hlocks := B.notSynchronized
  have S : CallFix p m c cX2_switchLoad 3 s (([.ref (a 0), .int (zI k)] : List Value)).toArray wsX2_switchLoad RX2 := ⟨hx, hb, hml, hown, hts⟩
  have hin3 : ∀ w ∈ wsX30, w ∈ wsX2_switchLoad := by decide +kernel
  have hS : va_S (hC23 a) s.heap s.heap [] := va_S.rf
  have hl := lv_entry ([.ref (a 0), .int (zI k)]) (n := 3) (Nat.le_of_ble_eq_true rfl)
  rw [lg_entry_eq]
  generalize (lg_sl ([.ref (a 0), .int (zI k)]) ++ List.replicate (3 - (lg_sl ([.ref (a 0), .int (zI k)])).length) Slot.unset).toArray = ls at hl ⊢
  have hl : lv_has ls 3 [(0, .ref (a 0)), (1, .int (zI k))] := hl
  refine lv_aload_n hx hb dX2_switchLoad_0 rfl (lv_at hl 0 rfl) ?_
  refine lv_iload_n hx hb dX2_switchLoad_1 rfl (lv_at hl 1 rfl) ?_
  by_cases z_2 : 0 ≤ k ∧ k < τ 8
  · refine x_callVR (As := [.int (zI k)]) (rest := []) S hK (c_X2_loadAt_ok l D cs a τ k (by omega) (by omega)) (cwV 1 hts gX2_switchLoad_X2_loadAt rfl rfl rfl (by decide +kernel) ⟨(Nat.le_of_ble_eq_true rfl), (Nat.le_of_ble_eq_true rfl)⟩) (x_rc hK (hsAt_0 (hAt_hs hH)) rfl) hH rfl hl.1 (Nat.le_of_ble_eq_true rfl) dX2_switchLoad_2 ⟨Nat.zero_le _, Nat.zero_le _⟩ ?_
    refine lv_astore_n (lv' := [(2, .ref (a (11 + k))), (0, .ref (a 0)), (1, .int (zI k))]) hx hb dX2_switchLoad_5 rfl hl (by decide) rfl (fun ls hl => ?_)
    refine lv_aload_n hx hb dX2_switchLoad_6 rfl (lv_at hl 0 rfl) ?_
    refine lv_ifnonnull (tgt := 12) hx hb dX2_switchLoad_7 (by decide) ?_
    refine lv_aload_n hx hb dX2_switchLoad_12 rfl (lv_at hl 0 rfl) ?_
    refine lv_aload_n hx hb dX2_switchLoad_13 rfl (lv_at hl 0 rfl) ?_
    refine hl_g_on S hin3 hK hH (el := k) (by omega) (hts (.fieldLink RX2 71 "EnergyDiscs$Load" "on" "Z") (by decide +kernel)) dX2_switchLoad_14 ?_
    refine x_if_ne (tgt := 24) hx hb dX2_switchLoad_17 (by decide) (by omega) (fun c_17 => ?_) (fun c_17 => ?_)
    · refine x_iconst hx hb dX2_switchLoad_24 ?_
      refine l_p_on S hin3 hK (hAt_l hH (e := k) (by omega)) hS (hC_l (by omega) _ rfl) (hts (.fieldLink RX2 71 "EnergyDiscs$Load" "on" "Z") (by decide +kernel)) (by first | exact Or.inl rfl | exact Or.inr rfl) dX2_switchLoad_25 (fun H locs hB hF hS => ?_)
      have hH : hAt D cs a (inL τ k (up (lrec τ k) 2 0)) H := hAt_setL hH hI (by omega) hB hF
      have hH : hAt D cs a (swF τ k) H := hAt_cong hH (by unfold swF; (first | rw [if_pos (by omega)] | rw [if_neg (by omega)]); exact hEq_rfl _)
      refine lv_aload_n hx hb dX2_switchLoad_28 rfl (lv_at hl 0 rfl) ?_
      refine hl_g_on S hin3 hK hH (el := k) (by omega) (hts (.fieldLink RX2 71 "EnergyDiscs$Load" "on" "Z") (by decide +kernel)) dX2_switchLoad_29 ?_
      rw [show ((swF τ k) (102 + 3 * k + 2) : Int) = if τ (102 + 3 * k + 2) = 0 then 1 else 0 from by unfold swF; rw [inL_in (by decide)]; exact up_s _ _ _]
      refine x_ifb_eq (tgt := 39) hx hb dX2_switchLoad_32 (by decide)  (fun c_32 => ?_) (fun c_32 => ?_)
      · refine x_iconst hx hb dX2_switchLoad_39 ?_
        exact x_iretM hx hb hr hlocks (by first | exact (if_pos (by assumption)).symm | exact (if_neg (by assumption)).symm) hH hS dX2_switchLoad_40
      · refine x_iconst hx hb dX2_switchLoad_35 ?_
        refine lv_goto (tgt := 40) hx hb dX2_switchLoad_36 (by decide) ?_
        exact x_iretM hx hb hr hlocks (by first | exact (if_pos (by assumption)).symm | exact (if_neg (by assumption)).symm) hH hS dX2_switchLoad_40
    · refine x_iconst hx hb dX2_switchLoad_20 ?_
      refine lv_goto (tgt := 25) hx hb dX2_switchLoad_21 (by decide) ?_
      refine l_p_on S hin3 hK (hAt_l hH (e := k) (by omega)) hS (hC_l (by omega) _ rfl) (hts (.fieldLink RX2 71 "EnergyDiscs$Load" "on" "Z") (by decide +kernel)) (by first | exact Or.inl rfl | exact Or.inr rfl) dX2_switchLoad_25 (fun H locs hB hF hS => ?_)
      have hH : hAt D cs a (inL τ k (up (lrec τ k) 2 1)) H := hAt_setL hH hI (by omega) hB hF
      have hH : hAt D cs a (swF τ k) H := hAt_cong hH (by unfold swF; (first | rw [if_pos (by omega)] | rw [if_neg (by omega)]); exact hEq_rfl _)
      refine lv_aload_n hx hb dX2_switchLoad_28 rfl (lv_at hl 0 rfl) ?_
      refine hl_g_on S hin3 hK hH (el := k) (by omega) (hts (.fieldLink RX2 71 "EnergyDiscs$Load" "on" "Z") (by decide +kernel)) dX2_switchLoad_29 ?_
      rw [show ((swF τ k) (102 + 3 * k + 2) : Int) = if τ (102 + 3 * k + 2) = 0 then 1 else 0 from by unfold swF; rw [inL_in (by decide)]; exact up_s _ _ _]
      refine x_ifb_eq (tgt := 39) hx hb dX2_switchLoad_32 (by decide)  (fun c_32 => ?_) (fun c_32 => ?_)
      · refine x_iconst hx hb dX2_switchLoad_39 ?_
        exact x_iretM hx hb hr hlocks (by first | exact (if_pos (by assumption)).symm | exact (if_neg (by assumption)).symm) hH hS dX2_switchLoad_40
      · refine x_iconst hx hb dX2_switchLoad_35 ?_
        refine lv_goto (tgt := 40) hx hb dX2_switchLoad_36 (by decide) ?_
        exact x_iretM hx hb hr hlocks (by first | exact (if_pos (by assumption)).symm | exact (if_neg (by assumption)).symm) hH hS dX2_switchLoad_40
  · exact absurd hk z_2
set_option maxHeartbeats 4000000 in
set_option maxRecDepth 100000 in
theorem c_X2_breakSeal_bad (l : Launch) (D : va_G) (cs : Nat → ClassId) (a : Int → Nat) (τ : Int → Int) (k : Int) (h7 : 0 ≤ τ 7 ∧ τ 7 ≤ 7) (hk : -2147483648 ≤ k ∧ k < 2147483648) (hb0 : 0 ≤ k → k < τ 7 → τ (11 + 13 * k + 7) = 0 ∨ τ (11 + 13 * k + 7) = 1) (hn : wnT τ k < 0) : kR D cs l yX2_breakSeal wsX2_breakSeal ({ frames := 1, cells := 0, slots := 0, locals := 21 } : Room) [.ref (a 0), .int (zI k)] (fun H => hAt D cs a τ H) (some (.int (zI (wnT τ k)))) := by
  refine Met.ofW (cc := cX2_breakSeal) (maxL := 3) (ret := (some .int)) (by decide) rfl ?_
  intro p e s m args below meth c s₁ B hml hv
  obtain ⟨rfl, hK, hH⟩ := hv
  have hx := B.exec
  have hb := B.bytes
  have hr := B.returns
  have hts := atoms_spec (ws := wsX2_breakSeal) B.pre
  have hown : s.vm.findClass RX2 = some m.cls := findClass_of_methodNamed B.named
  have hlocks := B.notSynchronized
  have S : CallFix p m c cX2_breakSeal 3 s (([.ref (a 0), .int (zI k)] : List Value)).toArray wsX2_breakSeal RX2 := ⟨hx, hb, hml, hown, hts⟩
  have hin4 : ∀ w ∈ wsX40, w ∈ wsX2_breakSeal := by decide +kernel
  have hl := lv_entry ([.ref (a 0), .int (zI k)]) (n := 3) (Nat.le_of_ble_eq_true rfl)
  rw [lg_entry_eq]
  generalize (lg_sl ([.ref (a 0), .int (zI k)]) ++ List.replicate (3 - (lg_sl ([.ref (a 0), .int (zI k)])).length) Slot.unset).toArray = ls at hl ⊢
  have hl : lv_has ls 3 [(0, .ref (a 0)), (1, .int (zI k))] := hl
  unfold wnT at hn
  refine lv_aload_n hx hb dX2_breakSeal_0 rfl (lv_at hl 0 rfl) ?_
  refine lv_iload_n hx hb dX2_breakSeal_1 rfl (lv_at hl 1 rfl) ?_
  by_cases z_2 : 0 ≤ k ∧ k < τ 7
  · refine x_callVR (As := [.int (zI k)]) (rest := []) S hK (c_X2_meterAt_ok l D cs a τ k (by omega) (by omega)) (cwV 1 hts gX2_breakSeal_X2_meterAt rfl rfl rfl (by decide +kernel) ⟨(Nat.le_of_ble_eq_true rfl), (Nat.le_of_ble_eq_true rfl)⟩) (x_rc hK (hsAt_0 (hAt_hs hH)) rfl) hH rfl hl.1 (Nat.le_of_ble_eq_true rfl) dX2_breakSeal_2 ⟨Nat.zero_le _, Nat.zero_le _⟩ ?_
    refine lv_astore_n (lv' := [(2, .ref (a (4 + k))), (0, .ref (a 0)), (1, .int (zI k))]) hx hb dX2_breakSeal_5 rfl hl (by decide) rfl (fun ls hl => ?_)
    refine lv_aload_n hx hb dX2_breakSeal_6 rfl (lv_at hl 0 rfl) ?_
    refine lv_ifnonnull (tgt := 12) hx hb dX2_breakSeal_7 (by decide) ?_
    have hb1 := hb0 z_2.1 z_2.2
    refine lv_aload_n hx hb dX2_breakSeal_12 rfl (lv_at hl 0 rfl) ?_
    refine hm_g_broken S hin4 hK hH (el := k) (by omega) (hts (.fieldLink RX2 75 "EnergyDiscs$Meter" "broken" "Z") (by decide +kernel)) dX2_breakSeal_13 ?_
    refine x_if_eq (tgt := 22) hx hb dX2_breakSeal_16 (by decide) (by omega) (fun c_16 => ?_) (fun c_16 => ?_)
    · exfalso; rw [if_neg (by omega), if_neg (by omega)] at hn; omega
    · refine x_bipush hx hb dX2_breakSeal_19 (by decide +kernel) ?_
      exact x_iretR hx hb hr hlocks (by unfold wnT; repeat (first | rw [if_pos (by omega)] | rw [if_neg (by omega)])) rfl dX2_breakSeal_21
  · refine x_callVR (As := [.int (zI k)]) (rest := []) S hK (c_X2_meterAt_no l D cs a τ k (by omega) (by omega) (by omega)) (cwV 1 hts gX2_breakSeal_X2_meterAt rfl rfl rfl (by decide +kernel) ⟨(Nat.le_of_ble_eq_true rfl), (Nat.le_of_ble_eq_true rfl)⟩) (x_rc hK (hsAt_0 (hAt_hs hH)) rfl) hH rfl hl.1 (Nat.le_of_ble_eq_true rfl) dX2_breakSeal_2 ⟨Nat.zero_le _, Nat.zero_le _⟩ ?_
    refine lv_astore_nN (lv' := [(2, .null), (0, .ref (a 0)), (1, .int (zI k))]) hx hb dX2_breakSeal_5 rfl hl (by decide) rfl (fun ls hl => ?_)
    refine lv_aload_nN hx hb dX2_breakSeal_6 rfl (lv_at hl 0 rfl) ?_
    refine lv_ifnonnullN hx hb dX2_breakSeal_7 ?_
    refine x_iconst hx hb dX2_breakSeal_10 ?_
    exact x_iretR hx hb hr hlocks (by unfold wnT; repeat (first | rw [if_pos (by omega)] | rw [if_neg (by omega)])) rfl dX2_breakSeal_11
set_option maxHeartbeats 4000000 in
set_option maxRecDepth 100000 in
theorem c_X2_breakSeal_ok (l : Launch) (D : va_G) (cs : Nat → ClassId) (a : Int → Nat) (τ : Int → Int) (k : Int) (h7 : 0 ≤ τ 7 ∧ τ 7 ≤ 7) (hk : -2147483648 ≤ k ∧ k < 2147483648) (hb0 : 0 ≤ k → k < τ 7 → τ (11 + 13 * k + 7) = 0 ∨ τ (11 + 13 * k + 7) = 1) (hn : wnT τ k = 0) (hI : hI23 a) : kM D cs l yX2_breakSeal wsX2_breakSeal ({ frames := 1, cells := 0, slots := 0, locals := 21 } : Room) [.ref (a 0), .int (zI k)] (fun H => hAt D cs a τ H) (some (.int (zI (τ (11 + 13 * k + 6))))) (fun H => hAt D cs a (bsF τ k) H) (hC23 a) := by
  refine Met.ofW (cc := cX2_breakSeal) (maxL := 3) (ret := (some .int)) (by decide) rfl ?_
  intro p e s m args below meth c s₁ B hml hv
  obtain ⟨rfl, hK, hH⟩ := hv
  have hx := B.exec
  have hb := B.bytes
  have hr := B.returns
  have hts := atoms_spec (ws := wsX2_breakSeal) B.pre
  have hown : s.vm.findClass RX2 = some m.cls := findClass_of_methodNamed B.named
  have hlocks := B.notSynchronized
  have S : CallFix p m c cX2_breakSeal 3 s (([.ref (a 0), .int (zI k)] : List Value)).toArray wsX2_breakSeal RX2 := ⟨hx, hb, hml, hown, hts⟩
  have hin4 : ∀ w ∈ wsX40, w ∈ wsX2_breakSeal := by decide +kernel
  have hS : va_S (hC23 a) s.heap s.heap [] := va_S.rf
  have hl := lv_entry ([.ref (a 0), .int (zI k)]) (n := 3) (Nat.le_of_ble_eq_true rfl)
  rw [lg_entry_eq]
  generalize (lg_sl ([.ref (a 0), .int (zI k)]) ++ List.replicate (3 - (lg_sl ([.ref (a 0), .int (zI k)])).length) Slot.unset).toArray = ls at hl ⊢
  have hl : lv_has ls 3 [(0, .ref (a 0)), (1, .int (zI k))] := hl
  have hwt := wnT_0 hn
  have hb1 := hb0 hwt.1.1 hwt.1.2
  refine lv_aload_n hx hb dX2_breakSeal_0 rfl (lv_at hl 0 rfl) ?_
  refine lv_iload_n hx hb dX2_breakSeal_1 rfl (lv_at hl 1 rfl) ?_
  by_cases z_2 : 0 ≤ k ∧ k < τ 7
  · refine x_callVR (As := [.int (zI k)]) (rest := []) S hK (c_X2_meterAt_ok l D cs a τ k (by omega) (by omega)) (cwV 1 hts gX2_breakSeal_X2_meterAt rfl rfl rfl (by decide +kernel) ⟨(Nat.le_of_ble_eq_true rfl), (Nat.le_of_ble_eq_true rfl)⟩) (x_rc hK (hsAt_0 (hAt_hs hH)) rfl) hH rfl hl.1 (Nat.le_of_ble_eq_true rfl) dX2_breakSeal_2 ⟨Nat.zero_le _, Nat.zero_le _⟩ ?_
    refine lv_astore_n (lv' := [(2, .ref (a (4 + k))), (0, .ref (a 0)), (1, .int (zI k))]) hx hb dX2_breakSeal_5 rfl hl (by decide) rfl (fun ls hl => ?_)
    refine lv_aload_n hx hb dX2_breakSeal_6 rfl (lv_at hl 0 rfl) ?_
    refine lv_ifnonnull (tgt := 12) hx hb dX2_breakSeal_7 (by decide) ?_
    refine lv_aload_n hx hb dX2_breakSeal_12 rfl (lv_at hl 0 rfl) ?_
    refine hm_g_broken S hin4 hK hH (el := k) (by omega) (hts (.fieldLink RX2 75 "EnergyDiscs$Meter" "broken" "Z") (by decide +kernel)) dX2_breakSeal_13 ?_
    refine x_if_eq (tgt := 22) hx hb dX2_breakSeal_16 (by decide) (by omega) (fun c_16 => ?_) (fun c_16 => ?_)
    · refine lv_aload_n hx hb dX2_breakSeal_22 rfl (lv_at hl 0 rfl) ?_
      refine x_iconst hx hb dX2_breakSeal_23 ?_
      refine t_p_broken S hin4 hK (hAt_m hH (e := k) (by omega)) hS (hC_m (by omega) _ rfl) (hts (.fieldLink RX2 75 "EnergyDiscs$Meter" "broken" "Z") (by decide +kernel)) (by exact Or.inr rfl) dX2_breakSeal_24 (fun H locs hB hF hS => ?_)
      have hH : hAt D cs a (inM τ k (up (mrec τ k) 7 1)) H := hAt_setM hH hI (by omega) hB hF
      have hH : hAt D cs a (bsF τ k) H := hH
      refine lv_aload_n hx hb dX2_breakSeal_27 rfl (lv_at hl 0 rfl) ?_
      refine hm_g_seal S hin4 hK hH (el := k) (by omega) (hts (.fieldLink RX2 78 "EnergyDiscs$Meter" "seal" "I") (by decide +kernel)) dX2_breakSeal_28 ?_
      exact x_iretM hx hb hr hlocks (by unfold bsF; rw [inM_in (by decide)]; exact up_n (by decide)) hH hS dX2_breakSeal_31
    · exfalso; omega
  · exact absurd hwt.1 z_2
set_option maxHeartbeats 4000000 in
set_option maxRecDepth 100000 in
theorem c_X2_owedAt (l : Launch) (D : va_G) (cs : Nat → ClassId) (a : Int → Nat) (τ : Int → Int) (b : Nat) (f : Int → Int)  : kR D cs l yX2_owedAt wsX2_owedAt ({ frames := 1, cells := 0, slots := 0, locals := 20 } : Room) [.ref (a 0), .ref b] (fun H => hsAt D cs a τ H ∧ tAt D b f H) (some (.int (zI (owS f τ)))) := by
  refine Met.ofW (cc := cX2_owedAt) (maxL := 2) (ret := (some .int)) (by decide) rfl ?_
  intro p e s m args below meth c s₁ B hml hv
  obtain ⟨rfl, hK, hH, hT⟩ := hv
  have hx := B.exec
  have hb := B.bytes
  have hr := B.returns
  have hts := atoms_spec (ws := wsX2_owedAt) B.pre
  have hown : s.vm.findClass RX2 = some m.cls := findClass_of_methodNamed B.named
  have hlocks := B.notSynchronized
  have S : CallFix p m c cX2_owedAt 2 s (([.ref (a 0), .ref b] : List Value)).toArray wsX2_owedAt RX2 := ⟨hx, hb, hml, hown, hts⟩
  have hin2 : ∀ w ∈ wsX20, w ∈ wsX2_owedAt := by decide +kernel
  have hl := lv_entry ([.ref (a 0), .ref b]) (n := 2) (Nat.le_of_ble_eq_true rfl)
  rw [lg_entry_eq]
  generalize (lg_sl ([.ref (a 0), .ref b]) ++ List.replicate (2 - (lg_sl ([.ref (a 0), .ref b])).length) Slot.unset).toArray = ls at hl ⊢
  have hl : lv_has ls 2 [(0, .ref (a 0)), (1, .ref b)] := hl
  refine lv_aload_n hx hb dX2_owedAt_0 rfl (lv_at hl 1 rfl) ?_
  refine x_callVR (As := []) (rest := []) S hK (c_X4_unbilledDayTurns l D cs b f ) (cwV 0 hts gX2_owedAt_X4_unbilledDayTurns rfl rfl rfl (by decide +kernel) ⟨(Nat.le_of_ble_eq_true rfl), (Nat.le_of_ble_eq_true rfl)⟩) (x_rc hK hT rfl) hT rfl hl.1 (Nat.le_of_ble_eq_true rfl) dX2_owedAt_1 ⟨Nat.zero_le _, Nat.zero_le _⟩ ?_
  refine lv_aload_n hx hb dX2_owedAt_4 rfl (lv_at hl 0 rfl) ?_
  refine h_g_settings S hin2 hK hH (hts (.fieldLink RX2 9 "EnergyDiscs$House" "settings" "[I") (by decide +kernel)) dX2_owedAt_5 ?_
  refine x_iconst hx hb dX2_owedAt_8 ?_
  refine h_l_set S hK hH (by omega) dX2_owedAt_9 ?_
  refine x_imul hx hb dX2_owedAt_10 ?_
  refine lv_aload_n hx hb dX2_owedAt_11 rfl (lv_at hl 1 rfl) ?_
  refine x_callVR (As := []) (rest := [.int (zI ((f 3 - f 11) * (τ 4)))]) S hK (c_X4_unbilledNightTurns l D cs b f ) (cwV 0 hts gX2_owedAt_X4_unbilledNightTurns rfl rfl rfl (by decide +kernel) ⟨(Nat.le_of_ble_eq_true rfl), (Nat.le_of_ble_eq_true rfl)⟩) (x_rc hK hT rfl) hT rfl hl.1 (Nat.le_of_ble_eq_true rfl) dX2_owedAt_12 ⟨Nat.zero_le _, Nat.zero_le _⟩ ?_
  refine lv_aload_n hx hb dX2_owedAt_15 rfl (lv_at hl 0 rfl) ?_
  refine h_g_settings S hin2 hK hH (hts (.fieldLink RX2 9 "EnergyDiscs$House" "settings" "[I") (by decide +kernel)) dX2_owedAt_16 ?_
  refine x_iconst hx hb dX2_owedAt_19 ?_
  refine h_l_set S hK hH (by omega) dX2_owedAt_20 ?_
  refine x_imul hx hb dX2_owedAt_21 ?_
  refine x_iadd hx hb dX2_owedAt_22 ?_
  exact x_iretR hx hb hr hlocks (by first | rfl | omega) rfl dX2_owedAt_23
set_option maxHeartbeats 4000000 in
set_option maxRecDepth 100000 in
theorem c_X2_inspect_bad (l : Launch) (D : va_G) (cs : Nat → ClassId) (a : Int → Nat) (τ : Int → Int) (k : Int) (h7 : 0 ≤ τ 7 ∧ τ 7 ≤ 7) (hk : -2147483648 ≤ k ∧ k < 2147483648) (hn : ¬ (0 ≤ k ∧ k < τ 7)) : kR D cs l yX2_inspect wsX2_inspect ({ frames := 2, cells := 0, slots := 0, locals := 41 } : Room) [.ref (a 0), .int (zI k)] (fun H => hAt D cs a τ H) (some (.int (zI (-1)))) := by
  refine Met.ofW (cc := cX2_inspect) (maxL := 4) (ret := (some .int)) (by decide) rfl ?_
  intro p e s m args below meth c s₁ B hml hv
  obtain ⟨rfl, hK, hH⟩ := hv
  have hx := B.exec
  have hb := B.bytes
  have hr := B.returns
  have hts := atoms_spec (ws := wsX2_inspect) B.pre
  have hown : s.vm.findClass RX2 = some m.cls := findClass_of_methodNamed B.named
  have hlocks := B.notSynchronized
  have S : CallFix p m c cX2_inspect 4 s (([.ref (a 0), .int (zI k)] : List Value)).toArray wsX2_inspect RX2 := ⟨hx, hb, hml, hown, hts⟩
  have hin2 : ∀ w ∈ wsX20, w ∈ wsX2_inspect := by decide +kernel
  have hin4 : ∀ w ∈ wsX40, w ∈ wsX2_inspect := by decide +kernel
  have hl := lv_entry ([.ref (a 0), .int (zI k)]) (n := 4) (Nat.le_of_ble_eq_true rfl)
  rw [lg_entry_eq]
  generalize (lg_sl ([.ref (a 0), .int (zI k)]) ++ List.replicate (4 - (lg_sl ([.ref (a 0), .int (zI k)])).length) Slot.unset).toArray = ls at hl ⊢
  have hl : lv_has ls 4 [(0, .ref (a 0)), (1, .int (zI k))] := hl
  refine lv_aload_n hx hb dX2_inspect_0 rfl (lv_at hl 0 rfl) ?_
  refine lv_iload_n hx hb dX2_inspect_1 rfl (lv_at hl 1 rfl) ?_
  by_cases z_2 : 0 ≤ k ∧ k < τ 7
  · exact absurd z_2 hn
  · refine x_callVR (As := [.int (zI k)]) (rest := []) S hK (c_X2_meterAt_no l D cs a τ k (by omega) (by omega) (by omega)) (cwV 1 hts gX2_inspect_X2_meterAt rfl rfl rfl (by decide +kernel) ⟨(Nat.le_of_ble_eq_true rfl), (Nat.le_of_ble_eq_true rfl)⟩) (x_rc hK (hsAt_0 (hAt_hs hH)) rfl) hH rfl hl.1 (Nat.le_of_ble_eq_true rfl) dX2_inspect_2 ⟨Nat.zero_le _, Nat.zero_le _⟩ ?_
    refine lv_astore_nN (lv' := [(2, .null), (0, .ref (a 0)), (1, .int (zI k))]) hx hb dX2_inspect_5 rfl hl (by decide) rfl (fun ls hl => ?_)
    refine lv_aload_nN hx hb dX2_inspect_6 rfl (lv_at hl 0 rfl) ?_
    refine lv_ifnonnullN hx hb dX2_inspect_7 ?_
    refine x_iconst hx hb dX2_inspect_10 ?_
    exact x_iretR hx hb hr hlocks (by first | rfl | omega) rfl dX2_inspect_11
set_option maxHeartbeats 4000000 in
set_option maxRecDepth 100000 in
theorem c_X2_inspect_ok (l : Launch) (D : va_G) (cs : Nat → ClassId) (a : Int → Nat) (τ : Int → Int) (k : Int) (h7 : 0 ≤ τ 7 ∧ τ 7 ≤ 7) (hk : 0 ≤ k ∧ k < τ 7) (h01 : τ (11 + 13 * k + 7) = 0 ∨ τ (11 + 13 * k + 7) = 1) (hI : hI23 a) : kM D cs l yX2_inspect wsX2_inspect ({ frames := 2, cells := 0, slots := 0, locals := 41 } : Room) [.ref (a 0), .int (zI k)] (fun H => hAt D cs a τ H) (some (.int (zI (owS (mrec τ k) τ)))) (fun H => hAt D cs a (inF τ k) H) (hC23 a) := by
  refine Met.ofW (cc := cX2_inspect) (maxL := 4) (ret := (some .int)) (by decide) rfl ?_
  intro p e s m args below meth c s₁ B hml hv
  obtain ⟨rfl, hK, hH⟩ := hv
  have hx := B.exec
  have hb := B.bytes
  have hr := B.returns
  have hts := atoms_spec (ws := wsX2_inspect) B.pre
  have hown : s.vm.findClass RX2 = some m.cls := findClass_of_methodNamed B.named
  have hlocks := B.notSynchronized
  have S : CallFix p m c cX2_inspect 4 s (([.ref (a 0), .int (zI k)] : List Value)).toArray wsX2_inspect RX2 := ⟨hx, hb, hml, hown, hts⟩
  have hin2 : ∀ w ∈ wsX20, w ∈ wsX2_inspect := by decide +kernel
  have hin4 : ∀ w ∈ wsX40, w ∈ wsX2_inspect := by decide +kernel
  have hS : va_S (hC23 a) s.heap s.heap [] := va_S.rf
  have hl := lv_entry ([.ref (a 0), .int (zI k)]) (n := 4) (Nat.le_of_ble_eq_true rfl)
  rw [lg_entry_eq]
  generalize (lg_sl ([.ref (a 0), .int (zI k)]) ++ List.replicate (4 - (lg_sl ([.ref (a 0), .int (zI k)])).length) Slot.unset).toArray = ls at hl ⊢
  have hl : lv_has ls 4 [(0, .ref (a 0)), (1, .int (zI k))] := hl
  refine lv_aload_n hx hb dX2_inspect_0 rfl (lv_at hl 0 rfl) ?_
  refine lv_iload_n hx hb dX2_inspect_1 rfl (lv_at hl 1 rfl) ?_
  by_cases z_2 : 0 ≤ k ∧ k < τ 7
  · refine x_callVR (As := [.int (zI k)]) (rest := []) S hK (c_X2_meterAt_ok l D cs a τ k (by omega) (by omega)) (cwV 1 hts gX2_inspect_X2_meterAt rfl rfl rfl (by decide +kernel) ⟨(Nat.le_of_ble_eq_true rfl), (Nat.le_of_ble_eq_true rfl)⟩) (x_rc hK (hsAt_0 (hAt_hs hH)) rfl) hH rfl hl.1 (Nat.le_of_ble_eq_true rfl) dX2_inspect_2 ⟨Nat.zero_le _, Nat.zero_le _⟩ ?_
    refine lv_astore_n (lv' := [(2, .ref (a (4 + k))), (0, .ref (a 0)), (1, .int (zI k))]) hx hb dX2_inspect_5 rfl hl (by decide) rfl (fun ls hl => ?_)
    refine lv_aload_n hx hb dX2_inspect_6 rfl (lv_at hl 0 rfl) ?_
    refine lv_ifnonnull (tgt := 12) hx hb dX2_inspect_7 (by decide) ?_
    refine lv_aload_n hx hb dX2_inspect_12 rfl (lv_at hl 1 rfl) ?_
    refine lv_aload_n hx hb dX2_inspect_13 rfl (lv_at hl 0 rfl) ?_
    refine x_callVR (As := [.ref (a (4 + k))]) (rest := []) S hK (c_X2_owedAt l D cs a τ (a (4 + k)) (mrec τ k) ) (cwV 1 hts gX2_inspect_X2_owedAt rfl rfl rfl (by decide +kernel) ⟨(Nat.le_of_ble_eq_true rfl), (Nat.le_of_ble_eq_true rfl)⟩) (x_rc hK (hsAt_0 (hAt_hs hH)) rfl) ⟨(hAt_hs hH), (hAt_m hH (e := k) (by omega))⟩ rfl hl.1 (Nat.le_of_ble_eq_true rfl) dX2_inspect_14 ⟨Nat.zero_le _, Nat.zero_le _⟩ ?_
    refine lv_istore_n (lv' := [(3, .int (zI (owS (mrec τ k) τ))), (2, .ref (a (4 + k))), (0, .ref (a 0)), (1, .int (zI k))]) hx hb dX2_inspect_17 rfl hl (by decide) rfl (fun ls hl => ?_)
    refine lv_aload_n hx hb dX2_inspect_18 rfl (lv_at hl 1 rfl) ?_
    refine lv_iload_n hx hb dX2_inspect_19 rfl (lv_at hl 0 rfl) ?_
    refine x_callVMn (As := [.int (zI (owS (mrec τ k) τ))]) (rest := []) S hK (c_X4_settleBill l D cs (a (4 + k)) (mrec τ k) (owS (mrec τ k) τ) ) (cwV 1 hts gX2_inspect_X4_settleBill rfl rfl rfl (by decide +kernel) ⟨(Nat.le_of_ble_eq_true rfl), (Nat.le_of_ble_eq_true rfl)⟩) (x_rc hK (hAt_m hH (e := k) (by omega)) rfl) (hAt_m hH (e := k) (by omega)) rfl hl.1 (Nat.le_of_ble_eq_true rfl) dX2_inspect_20 ⟨Nat.zero_le _, Nat.zero_le _⟩ hS (hC_m (by omega)) (fun H locs hB hF hS => ?_)
    have hH : hAt D cs a (inM τ k (stM (mrec τ k) (owS (mrec τ k) τ))) H := hAt_setM hH hI (by omega) hB hF
    have hH : hAt D cs a (inA τ k) H := hH
    have e7 := inA_7 (τ := τ) (k := k)
    refine lv_aload_n hx hb dX2_inspect_23 rfl (lv_at hl 1 rfl) ?_
    refine hm_g_broken S hin4 hK hH (el := k) (by omega) (hts (.fieldLink RX2 75 "EnergyDiscs$Meter" "broken" "Z") (by decide +kernel)) dX2_inspect_24 ?_
    refine x_if_eq (tgt := 48) hx hb dX2_inspect_27 (by decide) (by omega) (fun c_27 => ?_) (fun c_27 => ?_)
    · refine lv_iload_n hx hb dX2_inspect_48 rfl (lv_at hl 0 rfl) ?_
      exact x_iretM hx hb hr hlocks (by first | rfl | omega) (hAt_cong hH (by unfold inF; first | (rw [if_pos (by omega)]; exact hEq_rfl _) | (rw [if_neg (by omega)]; exact hEq_rfl _))) hS dX2_inspect_49
    · refine lv_aload_n hx hb dX2_inspect_30 rfl (lv_at hl 2 rfl) ?_
      refine lv_dup hx hb dX2_inspect_31 rfl ?_
      refine h_g_greatestSeal S hin2 hK (hAt_hs hH) (hts (.fieldLink RX2 49 "EnergyDiscs$House" "greatestSeal" "I") (by decide +kernel)) dX2_inspect_32 ?_
      refine x_iconst hx hb dX2_inspect_35 ?_
      refine x_iadd hx hb dX2_inspect_36 ?_
      refine h_p_greatestSeal S hin2 hK hH hI hS (bC_of (by decide) (by decide)) (hts (.fieldLink RX2 49 "EnergyDiscs$House" "greatestSeal" "I") (by decide +kernel)) dX2_inspect_37 (fun H locs hH hF hS => ?_)
      have hH : hAt D cs a (inB τ k) H := hH
      refine lv_aload_n hx hb dX2_inspect_40 rfl (lv_at hl 1 rfl) ?_
      refine lv_aload_n hx hb dX2_inspect_41 rfl (lv_at hl 2 rfl) ?_
      refine h_g_greatestSeal S hin2 hK (hAt_hs hH) (hts (.fieldLink RX2 49 "EnergyDiscs$House" "greatestSeal" "I") (by decide +kernel)) dX2_inspect_42 ?_
      refine x_callVMn (As := [.int (zI (inB τ k 10))]) (rest := []) S hK (c_X4_mend l D cs (a (4 + k)) (mrec (inB τ k) k) (inB τ k 10) ) (cwV 1 hts gX2_inspect_X4_mend rfl rfl rfl (by decide +kernel) ⟨(Nat.le_of_ble_eq_true rfl), (Nat.le_of_ble_eq_true rfl)⟩) (x_rc hK (hAt_m hH (e := k) (by omega)) rfl) (hAt_m hH (e := k) (by omega)) rfl hl.1 (Nat.le_of_ble_eq_true rfl) dX2_inspect_45 ⟨Nat.zero_le _, Nat.zero_le _⟩ hS (hC_m (by omega)) (fun H locs hB hF hS => ?_)
      have hH : hAt D cs a (inM (inB τ k) k (mdM (mrec (inB τ k) k) (inB τ k 10))) H := hAt_setM hH hI (by omega) hB hF
      refine lv_iload_n hx hb dX2_inspect_48 rfl (lv_at hl 0 rfl) ?_
      exact x_iretM hx hb hr hlocks (by first | rfl | omega) (hAt_cong hH (by unfold inF; first | (rw [if_pos (by omega)]; exact hEq_rfl _) | (rw [if_neg (by omega)]; exact hEq_rfl _))) hS dX2_inspect_49
  · exact absurd hk z_2
set_option maxHeartbeats 4000000 in
set_option maxRecDepth 100000 in
theorem c_X2_fedThrough (l : Launch) (D : va_G) (cs : Nat → ClassId) (a : Int → Nat) (τ : Int → Int) (k : Int) (hL : lOK τ) (hk : 0 ≤ k ∧ k < τ 7) : kR D cs l yX2_fedThrough wsX2_fedThrough ({ frames := 1, cells := 0, slots := 0, locals := 21 } : Room) [.ref (a 0), .int (zI k)] (fun H => hAt D cs a τ H) (some (.int (zI (fedC τ k)))) := by
  refine Met.ofW (cc := cX2_fedThrough) (maxL := 4) (ret := (some .int)) (by decide) rfl ?_
  intro p e s m args below meth c s₁ B hml hv
  obtain ⟨rfl, hK, hH⟩ := hv
  have hx := B.exec
  have hb := B.bytes
  have hr := B.returns
  have hts := atoms_spec (ws := wsX2_fedThrough) B.pre
  have hown : s.vm.findClass RX2 = some m.cls := findClass_of_methodNamed B.named
  have hlocks := B.notSynchronized
  have S : CallFix p m c cX2_fedThrough 4 s (([.ref (a 0), .int (zI k)] : List Value)).toArray wsX2_fedThrough RX2 := ⟨hx, hb, hml, hown, hts⟩
  have hin2 : ∀ w ∈ wsX20, w ∈ wsX2_fedThrough := by decide +kernel
  have hin4 : ∀ w ∈ wsX40, w ∈ wsX2_fedThrough := by decide +kernel
  have hl := lv_entry ([.ref (a 0), .int (zI k)]) (n := 4) (Nat.le_of_ble_eq_true rfl)
  rw [lg_entry_eq]
  generalize (lg_sl ([.ref (a 0), .int (zI k)]) ++ List.replicate (4 - (lg_sl ([.ref (a 0), .int (zI k)])).length) Slot.unset).toArray = ls at hl ⊢
  have hl : lv_has ls 4 [(0, .ref (a 0)), (1, .int (zI k))] := hl
  have h7 := hL.1
  refine x_iconst hx hb dX2_fedThrough_0 ?_
  refine lv_iload_n hx hb dX2_fedThrough_1 rfl (lv_at hl 1 rfl) ?_
  refine x_ishl hx hb (by omega) (by omega) dX2_fedThrough_2 ?_
  refine lv_istore_n (lv' := [(2, .int (zI (shI 1 k))), (0, .ref (a 0)), (1, .int (zI k))]) hx hb dX2_fedThrough_3 rfl hl (by decide) rfl (fun ls hl => ?_)
  refine lv_iload_n hx hb dX2_fedThrough_4 rfl (lv_at hl 2 rfl) ?_
  refine x_iconst hx hb dX2_fedThrough_5 ?_
  refine x_iadd hx hb dX2_fedThrough_6 ?_
  refine lv_istore_n (lv' := [(3, .int (zI (k + 1))), (2, .int (zI (shI 1 k))), (0, .ref (a 0)), (1, .int (zI k))]) hx hb dX2_fedThrough_7 rfl hl (by decide) rfl (fun ls hl => ?_)
  have lp8 : ∀ (n : Nat) (j : Int) (acc : Int) (n0 : Nat), (τ 7 - j).toNat < n → (k + 1 ≤ j ∧ j ≤ τ 7) → (j = k + 1 + (n0 : Int)) → (acc = fdC τ k n0) → (0 ≤ acc ∧ acc < 2147483648) → ∀ (ls : Array Slot), lv_has ls 4 [(3, .int (zI j)), (2, .int (zI acc)), (0, .ref (a 0)), (1, .int (zI k))] → W p l e (headSpec wsX2_fedThrough ({ frames := 1, cells := 0, slots := 0, locals := 21 } : Room)).room s m ([.ref (a 0), .int (zI k)] : List Value).toArray below meth c s.heap [] 0 0 (MQ below (kS (some (.int (zI (fedC τ k))))) ([.ref (a 0), .int (zI k)] : List Value).toArray s 0 0 (fun _ => False)) (F0 m 8 ls []) := by
    intro n
    induction n with
    | zero => intro j acc n0 hms; exact absurd hms (Nat.not_lt_zero _)
    | succ n ih =>
      intro j acc n0 hms hj hn ha hr0 ls hl
      have ih8 := ih
      clear ih
      refine lv_iload_n hx hb dX2_fedThrough_8 rfl (lv_at hl 0 rfl) ?_
      refine lv_aload_n hx hb dX2_fedThrough_9 rfl (lv_at hl 2 rfl) ?_
      refine h_g_meterCount S hin2 hK (hAt_hs hH) (hts (.fieldLink RX2 32 "EnergyDiscs$House" "meterCount" "I") (by decide +kernel)) dX2_fedThrough_10 ?_
      refine x_icmp_ge (tgt := 44) hx hb dX2_fedThrough_13 (by decide) (by omega) (by omega) (fun c_13 => ?_) (fun c_13 => ?_)
      · refine lv_iload_n hx hb dX2_fedThrough_44 rfl (lv_at hl 1 rfl) ?_
        exact x_iretR hx hb hr hlocks (by rw [ha]; unfold fedC; congr 1; omega) rfl dX2_fedThrough_45
      · have ht := hL.2.2.1 j (by omega) (by omega)
        have ht : 0 ≤ τ (11 + 13 * j + 0) ∧ τ (11 + 13 * j + 0) < j := by rw [Int.add_zero]; exact ht
        refine lv_iload_n hx hb dX2_fedThrough_16 rfl (lv_at hl 1 rfl) ?_
        refine lv_aload_n hx hb dX2_fedThrough_17 rfl (lv_at hl 2 rfl) ?_
        refine h_g_meters S hin2 hK (hAt_hs hH) (hts (.fieldLink RX2 17 "EnergyDiscs$House" "meters" "[LEnergyDiscs$Meter;") (by decide +kernel)) dX2_fedThrough_18 ?_
        refine lv_iload_n hx hb dX2_fedThrough_21 rfl (lv_at hl 0 rfl) ?_
        refine h_l_meters S hK hH (by omega) dX2_fedThrough_22 ?_
        refine hm_g_through S hin4 hK hH (el := j) (by omega) (hts (.fieldLink RX2 144 "EnergyDiscs$Meter" "through" "I") (by decide +kernel)) dX2_fedThrough_23 ?_
        refine x_callSR (As := [.int (zI acc), .int (zI (τ (11 + 13 * j + 0)))]) (rest := []) S hK (c_X2_contains l D cs acc (τ (11 + 13 * j + 0)) (by omega) (by omega)) (va_cwS 2 hts gX2_fedThrough_X2_contains rfl rfl rfl (by decide +kernel) ⟨(Nat.le_of_ble_eq_true rfl), (Nat.le_of_ble_eq_true rfl)⟩) trivial rfl hl.1 (Nat.le_of_ble_eq_true rfl) dX2_fedThrough_26 ⟨Nat.zero_le _, Nat.zero_le _⟩ ?_
        refine x_ifb_eq (tgt := 38) hx hb dX2_fedThrough_29 (by decide)  (fun c_29 => ?_) (fun c_29 => ?_)
        · refine x_iinc (x := j) (lv' := [(3, .int (zI (j + 1))), (2, .int (zI acc)), (0, .ref (a 0)), (1, .int (zI k))]) hx hb dX2_fedThrough_38 hl (k := 0) rfl (by decide) rfl (fun ls hl => ?_)
          refine lv_goto (tgt := 8) hx hb dX2_fedThrough_41 (by decide) ?_
          exact ih8 (j + 1) acc (n0 + 1) (by omega) (by omega) (by omega) (by rw [ha]; show _ = if fdC τ k n0 / 2 ^ (τ (11 + 13 * (k + 1 + (n0 : Int)) + 0)).toNat % 2 = 1 then orI (fdC τ k n0) (shI 1 (k + 1 + (n0 : Int))) else fdC τ k n0; rw [ha, hn] at c_29; first | (rw [if_pos c_29, hn]) | (rw [if_neg c_29])) (by first | exact hr0 | exact orI_rng hr0 (shI_rng (by decide) (by omega))) ls (lv_sub hl [0, 1, 2, 3] rfl)
        · refine lv_iload_n hx hb dX2_fedThrough_32 rfl (lv_at hl 1 rfl) ?_
          refine x_iconst hx hb dX2_fedThrough_33 ?_
          refine lv_iload_n hx hb dX2_fedThrough_34 rfl (lv_at hl 0 rfl) ?_
          refine x_ishl hx hb (by omega) (by omega) dX2_fedThrough_35 ?_
          have hsh := shI_rng (a := 1) (k := j) (by decide) (by omega)
          refine x_ior hx hb (by omega) (by omega) dX2_fedThrough_36 ?_
          refine lv_istore_n (lv' := [(2, .int (zI (orI acc (shI 1 j)))), (3, .int (zI j)), (0, .ref (a 0)), (1, .int (zI k))]) hx hb dX2_fedThrough_37 rfl hl (by decide) rfl (fun ls hl => ?_)
          refine x_iinc (x := j) (lv' := [(3, .int (zI (j + 1))), (2, .int (zI (orI acc (shI 1 j)))), (0, .ref (a 0)), (1, .int (zI k))]) hx hb dX2_fedThrough_38 hl (k := 1) rfl (by decide) rfl (fun ls hl => ?_)
          refine lv_goto (tgt := 8) hx hb dX2_fedThrough_41 (by decide) ?_
          exact ih8 (j + 1) (orI acc (shI 1 j)) (n0 + 1) (by omega) (by omega) (by omega) (by rw [ha]; show _ = if fdC τ k n0 / 2 ^ (τ (11 + 13 * (k + 1 + (n0 : Int)) + 0)).toNat % 2 = 1 then orI (fdC τ k n0) (shI 1 (k + 1 + (n0 : Int))) else fdC τ k n0; rw [ha, hn] at c_29; first | (rw [if_pos c_29, hn]) | (rw [if_neg c_29])) (by first | exact hr0 | exact orI_rng hr0 (shI_rng (by decide) (by omega))) ls (lv_sub hl [0, 1, 2, 3] rfl)
  exact lp8 ((τ 7 - (k + 1)).toNat + 1) (k + 1) (shI 1 k) 0 (Nat.lt_succ_self _) (by omega) (by omega) (by rfl) (by exact shI_rng (by decide) (by omega)) ls (lv_sub hl [0, 1, 2, 3] rfl)
set_option maxHeartbeats 4000000 in
set_option maxRecDepth 100000 in
theorem c_X2_powerOf (l : Launch) (D : va_G) (cs : Nat → ClassId) (a : Int → Nat) (τ : Int → Int) (k : Int) (hL : lOK τ) (hk : 0 ≤ k ∧ k < τ 7) : kR D cs l yX2_powerOf wsX2_powerOf ({ frames := 2, cells := 0, slots := 0, locals := 44 } : Room) [.ref (a 0), .int (zI k)] (fun H => hAt D cs a τ H) (some (.int (zI (cpow τ k)))) := by
  refine Met.ofW (cc := cX2_powerOf) (maxL := 5) (ret := (some .int)) (by decide) rfl ?_
  intro p e s m args below meth c s₁ B hml hv
  obtain ⟨rfl, hK, hH⟩ := hv
  have hx := B.exec
  have hb := B.bytes
  have hr := B.returns
  have hts := atoms_spec (ws := wsX2_powerOf) B.pre
  have hown : s.vm.findClass RX2 = some m.cls := findClass_of_methodNamed B.named
  have hlocks := B.notSynchronized
  have S : CallFix p m c cX2_powerOf 5 s (([.ref (a 0), .int (zI k)] : List Value)).toArray wsX2_powerOf RX2 := ⟨hx, hb, hml, hown, hts⟩
  have hin2 : ∀ w ∈ wsX20, w ∈ wsX2_powerOf := by decide +kernel
  have hin3 : ∀ w ∈ wsX30, w ∈ wsX2_powerOf := by decide +kernel
  have hl := lv_entry ([.ref (a 0), .int (zI k)]) (n := 5) (Nat.le_of_ble_eq_true rfl)
  rw [lg_entry_eq]
  generalize (lg_sl ([.ref (a 0), .int (zI k)]) ++ List.replicate (5 - (lg_sl ([.ref (a 0), .int (zI k)])).length) Slot.unset).toArray = ls at hl ⊢
  have hl : lv_has ls 5 [(0, .ref (a 0)), (1, .int (zI k))] := hl
  have h7 := hL.1
  have h8 := hL.2.1
  have hfd := fdC_rng (τ := τ) (n := k) hk.1 (τ 7 - k - 1).toNat (by omega)
  have hfd : 0 ≤ fedC τ k ∧ fedC τ k < 2147483648 := hfd
  refine lv_aload_n hx hb dX2_powerOf_0 rfl (lv_at hl 0 rfl) ?_
  refine lv_iload_n hx hb dX2_powerOf_1 rfl (lv_at hl 1 rfl) ?_
  refine x_callVR (As := [.int (zI k)]) (rest := []) S hK (c_X2_fedThrough l D cs a τ k (by omega) (by omega)) (cwV 1 hts gX2_powerOf_X2_fedThrough rfl rfl rfl (by decide +kernel) ⟨(Nat.le_of_ble_eq_true rfl), (Nat.le_of_ble_eq_true rfl)⟩) (x_rc hK (hsAt_0 (hAt_hs hH)) rfl) hH rfl hl.1 (Nat.le_of_ble_eq_true rfl) dX2_powerOf_2 ⟨Nat.zero_le _, Nat.zero_le _⟩ ?_
  refine lv_istore_n (lv' := [(2, .int (zI (fedC τ k))), (0, .ref (a 0)), (1, .int (zI k))]) hx hb dX2_powerOf_5 rfl hl (by decide) rfl (fun ls hl => ?_)
  refine x_iconst hx hb dX2_powerOf_6 ?_
  refine lv_istore_n (lv' := [(3, .int (zI 0)), (2, .int (zI (fedC τ k))), (0, .ref (a 0)), (1, .int (zI k))]) hx hb dX2_powerOf_7 rfl hl (by decide) rfl (fun ls hl => ?_)
  refine x_iconst hx hb dX2_powerOf_8 ?_
  refine lv_istore (lv' := [(4, .int (zI 0)), (3, .int (zI 0)), (2, .int (zI (fedC τ k))), (0, .ref (a 0)), (1, .int (zI k))]) hx hb dX2_powerOf_9 hl (by decide) rfl (fun ls hl => ?_)
  have lp11 : ∀ (n : Nat) (j : Int) (acc : Int) (n0 : Nat), (τ 8 - j).toNat < n → (0 ≤ j ∧ j ≤ τ 8) → (j = (n0 : Int)) → (acc = cpw τ k n0) → ∀ (ls : Array Slot), lv_has ls 5 [(4, .int (zI j)), (3, .int (zI acc)), (2, .int (zI (fedC τ k))), (0, .ref (a 0)), (1, .int (zI k))] → W p l e (headSpec wsX2_powerOf ({ frames := 2, cells := 0, slots := 0, locals := 44 } : Room)).room s m ([.ref (a 0), .int (zI k)] : List Value).toArray below meth c s.heap [] 0 0 (MQ below (kS (some (.int (zI (cpow τ k))))) ([.ref (a 0), .int (zI k)] : List Value).toArray s 0 0 (fun _ => False)) (F0 m 11 ls []) := by
    intro n
    induction n with
    | zero => intro j acc n0 hms; exact absurd hms (Nat.not_lt_zero _)
    | succ n ih =>
      intro j acc n0 hms hj hn ha ls hl
      have ih11 := ih
      clear ih
      refine lv_iload hx hb dX2_powerOf_11 (lv_at hl 0 rfl) ?_
      refine lv_aload_n hx hb dX2_powerOf_13 rfl (lv_at hl 3 rfl) ?_
      refine h_g_loadCount S hin2 hK (hAt_hs hH) (hts (.fieldLink RX2 40 "EnergyDiscs$House" "loadCount" "I") (by decide +kernel)) dX2_powerOf_14 ?_
      refine x_icmp_ge (tgt := 69) hx hb dX2_powerOf_17 (by decide) (by omega) (by omega) (fun c_17 => ?_) (fun c_17 => ?_)
      · refine lv_iload_n hx hb dX2_powerOf_69 rfl (lv_at hl 1 rfl) ?_
        exact x_iretR hx hb hr hlocks (by rw [ha]; unfold cpow; congr 1; omega) rfl dX2_powerOf_70
      · have hl3 := hL.2.2.2 j (by omega) (by omega)
        have hl4 : 0 ≤ τ (102 + 3 * j + 0) ∧ τ (102 + 3 * j + 0) < τ 7 := by rw [Int.add_zero]; exact hl3.1
        refine lv_aload_n hx hb dX2_powerOf_20 rfl (lv_at hl 3 rfl) ?_
        refine h_g_loads S hin2 hK (hAt_hs hH) (hts (.fieldLink RX2 23 "EnergyDiscs$House" "loads" "[LEnergyDiscs$Load;") (by decide +kernel)) dX2_powerOf_21 ?_
        refine lv_iload hx hb dX2_powerOf_24 (lv_at hl 0 rfl) ?_
        refine h_l_loads S hK hH (by omega) dX2_powerOf_26 ?_
        refine hl_g_on S hin3 hK hH (el := j) (by omega) (hts (.fieldLink RX2 71 "EnergyDiscs$Load" "on" "Z") (by decide +kernel)) dX2_powerOf_27 ?_
        refine x_if_eq (tgt := 63) hx hb dX2_powerOf_30 (by decide) (by omega) (fun c_30 => ?_) (fun c_30 => ?_)
        · refine x_iinc (x := j) (lv' := [(4, .int (zI (j + 1))), (3, .int (zI acc)), (2, .int (zI (fedC τ k))), (0, .ref (a 0)), (1, .int (zI k))]) hx hb dX2_powerOf_63 hl (k := 0) rfl (by decide) rfl (fun ls hl => ?_)
          refine lv_goto (tgt := 11) hx hb dX2_powerOf_66 (by decide) ?_
          exact ih11 (j + 1) acc (n0 + 1) (by omega) (by omega) (by omega) (by rw [ha]; show _ = cpw τ k n0 + (if ¬ τ (102 + 3 * (n0 : Int) + 2) = 0 ∧ fedC τ k / 2 ^ (τ (102 + 3 * (n0 : Int) + 0)).toNat % 2 = 1 then τ (102 + 3 * (n0 : Int) + 1) else 0); rw [← hn]; first | (rw [if_pos (by exact ⟨c_30, c_47⟩)]) | (rw [if_neg (by exact fun q => q.1 c_30), Int.add_zero]) | (rw [if_neg (by exact fun q => c_47 q.2), Int.add_zero])) ls (lv_sub hl [0, 1, 2, 3, 4] rfl)
        · refine lv_iload_n hx hb dX2_powerOf_33 rfl (lv_at hl 2 rfl) ?_
          refine lv_aload_n hx hb dX2_powerOf_34 rfl (lv_at hl 3 rfl) ?_
          refine h_g_loads S hin2 hK (hAt_hs hH) (hts (.fieldLink RX2 23 "EnergyDiscs$House" "loads" "[LEnergyDiscs$Load;") (by decide +kernel)) dX2_powerOf_35 ?_
          refine lv_iload hx hb dX2_powerOf_38 (lv_at hl 0 rfl) ?_
          refine h_l_loads S hK hH (by omega) dX2_powerOf_40 ?_
          refine hl_g_behind S hin3 hK hH (el := j) (by omega) (hts (.fieldLink RX2 134 "EnergyDiscs$Load" "behind" "I") (by decide +kernel)) dX2_powerOf_41 ?_
          refine x_callSR (As := [.int (zI (fedC τ k)), .int (zI (τ (102 + 3 * j + 0)))]) (rest := []) S hK (c_X2_contains l D cs (fedC τ k) (τ (102 + 3 * j + 0)) (by omega) (by omega)) (va_cwS 2 hts gX2_powerOf_X2_contains rfl rfl rfl (by decide +kernel) ⟨(Nat.le_of_ble_eq_true rfl), (Nat.le_of_ble_eq_true rfl)⟩) trivial rfl hl.1 (Nat.le_of_ble_eq_true rfl) dX2_powerOf_44 ⟨Nat.zero_le _, Nat.zero_le _⟩ ?_
          refine x_ifb_eq (tgt := 63) hx hb dX2_powerOf_47 (by decide)  (fun c_47 => ?_) (fun c_47 => ?_)
          · refine x_iinc (x := j) (lv' := [(4, .int (zI (j + 1))), (3, .int (zI acc)), (2, .int (zI (fedC τ k))), (0, .ref (a 0)), (1, .int (zI k))]) hx hb dX2_powerOf_63 hl (k := 0) rfl (by decide) rfl (fun ls hl => ?_)
            refine lv_goto (tgt := 11) hx hb dX2_powerOf_66 (by decide) ?_
            exact ih11 (j + 1) acc (n0 + 1) (by omega) (by omega) (by omega) (by rw [ha]; show _ = cpw τ k n0 + (if ¬ τ (102 + 3 * (n0 : Int) + 2) = 0 ∧ fedC τ k / 2 ^ (τ (102 + 3 * (n0 : Int) + 0)).toNat % 2 = 1 then τ (102 + 3 * (n0 : Int) + 1) else 0); rw [← hn]; first | (rw [if_pos (by exact ⟨c_30, c_47⟩)]) | (rw [if_neg (by exact fun q => q.1 c_30), Int.add_zero]) | (rw [if_neg (by exact fun q => c_47 q.2), Int.add_zero])) ls (lv_sub hl [0, 1, 2, 3, 4] rfl)
          · refine lv_iload_n hx hb dX2_powerOf_50 rfl (lv_at hl 1 rfl) ?_
            refine lv_aload_n hx hb dX2_powerOf_51 rfl (lv_at hl 3 rfl) ?_
            refine h_g_loads S hin2 hK (hAt_hs hH) (hts (.fieldLink RX2 23 "EnergyDiscs$House" "loads" "[LEnergyDiscs$Load;") (by decide +kernel)) dX2_powerOf_52 ?_
            refine lv_iload hx hb dX2_powerOf_55 (lv_at hl 0 rfl) ?_
            refine h_l_loads S hK hH (by omega) dX2_powerOf_57 ?_
            refine hl_g_power S hin3 hK hH (el := j) (by omega) (hts (.fieldLink RX2 141 "EnergyDiscs$Load" "power" "I") (by decide +kernel)) dX2_powerOf_58 ?_
            refine x_iadd hx hb dX2_powerOf_61 ?_
            refine lv_istore_n (lv' := [(3, .int (zI (acc + (τ (102 + 3 * j + 1))))), (4, .int (zI j)), (2, .int (zI (fedC τ k))), (0, .ref (a 0)), (1, .int (zI k))]) hx hb dX2_powerOf_62 rfl hl (by decide) rfl (fun ls hl => ?_)
            refine x_iinc (x := j) (lv' := [(4, .int (zI (j + 1))), (3, .int (zI (acc + (τ (102 + 3 * j + 1))))), (2, .int (zI (fedC τ k))), (0, .ref (a 0)), (1, .int (zI k))]) hx hb dX2_powerOf_63 hl (k := 1) rfl (by decide) rfl (fun ls hl => ?_)
            refine lv_goto (tgt := 11) hx hb dX2_powerOf_66 (by decide) ?_
            exact ih11 (j + 1) (acc + (τ (102 + 3 * j + 1))) (n0 + 1) (by omega) (by omega) (by omega) (by rw [ha]; show _ = cpw τ k n0 + (if ¬ τ (102 + 3 * (n0 : Int) + 2) = 0 ∧ fedC τ k / 2 ^ (τ (102 + 3 * (n0 : Int) + 0)).toNat % 2 = 1 then τ (102 + 3 * (n0 : Int) + 1) else 0); rw [← hn]; first | (rw [if_pos (by exact ⟨c_30, c_47⟩)]) | (rw [if_neg (by exact fun q => q.1 c_30), Int.add_zero]) | (rw [if_neg (by exact fun q => c_47 q.2), Int.add_zero])) ls (lv_sub hl [0, 1, 2, 3, 4] rfl)
  exact lp11 ((τ 8 - (0 : Int)).toNat + 1) 0 0 0 (Nat.lt_succ_self _) (by omega) (by omega) (by rfl) ls (lv_sub hl [0, 1, 2, 3, 4] rfl)
set_option maxHeartbeats 4000000 in
set_option maxRecDepth 100000 in
theorem c_X2_runDisc (l : Launch) (D : va_G) (cs : Nat → ClassId) (a : Int → Nat) (τ : Int → Int) (b : Nat) (f : Int → Int) (pw : Int) (n0 : Int) (hf : rOK f) (hs : sOK τ 0) (hp : 0 ≤ pw ∧ pw ≤ 48000) (hn : 1 ≤ n0 ∧ n0 ≤ 1440) (hne : a 0 ≠ b ∧ a 1 ≠ b) : kM D cs l yX2_runDisc wsX2_runDisc ({ frames := 3, cells := 0, slots := 0, locals := 70 } : Room) [.ref (a 0), .ref b, .int (zI pw), .int (zI n0)] (fun H => hsAt D cs a τ H ∧ tAt D b f H) (some (.int (zI (miT f (sset τ) pw (τ 6) n0.toNat)))) (fun H => hsAt D cs a τ H ∧ tAt D b (miN f (sset τ) pw (τ 6) n0.toNat) H) (oneC b) := by
  refine Met.ofW (cc := cX2_runDisc) (maxL := 9) (ret := (some .int)) (by decide) rfl ?_
  intro p e s m args below meth c s₁ B hml hv
  obtain ⟨rfl, hK, hH, hT⟩ := hv
  have hx := B.exec
  have hb := B.bytes
  have hr := B.returns
  have hts := atoms_spec (ws := wsX2_runDisc) B.pre
  have hown : s.vm.findClass RX2 = some m.cls := findClass_of_methodNamed B.named
  have hlocks := B.notSynchronized
  have S : CallFix p m c cX2_runDisc 9 s (([.ref (a 0), .ref b, .int (zI pw), .int (zI n0)] : List Value)).toArray wsX2_runDisc RX2 := ⟨hx, hb, hml, hown, hts⟩
  have hin2 : ∀ w ∈ wsX20, w ∈ wsX2_runDisc := by decide +kernel
  have hS : va_S (oneC b) s.heap s.heap [] := va_S.rf
  have hl := lv_entry ([.ref (a 0), .ref b, .int (zI pw), .int (zI n0)]) (n := 9) (Nat.le_of_ble_eq_true rfl)
  rw [lg_entry_eq]
  generalize (lg_sl ([.ref (a 0), .ref b, .int (zI pw), .int (zI n0)]) ++ List.replicate (9 - (lg_sl ([.ref (a 0), .ref b, .int (zI pw), .int (zI n0)])).length) Slot.unset).toArray = ls at hl ⊢
  have hl : lv_has ls 9 [(0, .ref (a 0)), (1, .ref b), (2, .int (zI pw)), (3, .int (zI n0))] := hl
  have hq := qOK_of hs
  have h6 : 0 ≤ τ 6 ∧ τ 6 < 1000000 := hs.2.2.2.2
  have s3 : 100 ≤ τ 3 ∧ τ 3 ≤ 5000 := hs.2.2.2.1
  refine x_iconst hx hb dX2_runDisc_0 ?_
  refine lv_istore (lv' := [(4, .int (zI 0)), (0, .ref (a 0)), (1, .ref b), (2, .int (zI pw)), (3, .int (zI n0))]) hx hb dX2_runDisc_1 hl (by decide) rfl (fun ls hl => ?_)
  refine x_iconst hx hb dX2_runDisc_3 ?_
  refine lv_istore (lv' := [(5, .int (zI 0)), (4, .int (zI 0)), (0, .ref (a 0)), (1, .ref b), (2, .int (zI pw)), (3, .int (zI n0))]) hx hb dX2_runDisc_4 hl (by decide) rfl (fun ls hl => ?_)
  have lp6 : ∀ (n : Nat) (ps : Int) (tr : Int) (g0 : Int → Int) (k0 : Nat), (n0 - ps).toNat < n → (ps = (k0 : Int)) → (ps ≤ n0) → (tr = miT f (sset τ) pw (τ 6) k0) → (g0 = miN f (sset τ) pw (τ 6) k0) → (rOK g0) → ∀ (H : Heap) (locs : List Loc), hsAt D cs a τ H → tAt D b g0 H → va_S (oneC b) s.heap H locs → ∀ (ls : Array Slot), lv_has ls 9 [(5, .int (zI ps)), (4, .int (zI tr)), (0, .ref (a 0)), (1, .ref b), (2, .int (zI pw)), (3, .int (zI n0))] → W p l e (headSpec wsX2_runDisc ({ frames := 3, cells := 0, slots := 0, locals := 70 } : Room)).room s m ([.ref (a 0), .ref b, .int (zI pw), .int (zI n0)] : List Value).toArray below meth c H locs 0 0 (MQ below (kQ (some (.int (zI (miT f (sset τ) pw (τ 6) n0.toNat)))) (fun H => hsAt D cs a τ H ∧ tAt D b (miN f (sset τ) pw (τ 6) n0.toNat) H) (oneC b)) ([.ref (a 0), .ref b, .int (zI pw), .int (zI n0)] : List Value).toArray s 0 0 (oneC b)) (F0 m 6 ls []) := by
    intro n
    induction n with
    | zero => intro ps tr g0 k0 hms; exact absurd hms (Nat.not_lt_zero _)
    | succ n ih =>
      intro ps tr g0 k0 hms i1 i0 i2 i3 i4 H locs hH hT hS ls hl
      have ih6 := ih
      clear ih
      refine lv_iload hx hb dX2_runDisc_6 (lv_at hl 0 rfl) ?_
      refine lv_iload_n hx hb dX2_runDisc_8 rfl (lv_at hl 5 rfl) ?_
      refine x_icmp_ge (tgt := 87) hx hb dX2_runDisc_9 (by decide) (by omega) (by omega) (fun c_9 => ?_) (fun c_9 => ?_)
      · refine lv_iload hx hb dX2_runDisc_87 (lv_at hl 1 rfl) ?_
        exact x_iretM hx hb hr hlocks (by rw [i2, show n0.toNat = k0 by omega]) ⟨hH, (tAt_cong hT (by rw [i3, show n0.toNat = k0 by omega]))⟩ hS dX2_runDisc_89
      · refine lv_aload_n hx hb dX2_runDisc_12 rfl (lv_at hl 2 rfl) ?_
        refine h_g_time S hin2 hK hH (hts (.fieldLink RX2 46 "EnergyDiscs$House" "time" "I") (by decide +kernel)) dX2_runDisc_13 ?_
        refine lv_iload hx hb dX2_runDisc_16 (lv_at hl 0 rfl) ?_
        refine x_iadd hx hb dX2_runDisc_18 ?_
        refine lv_istore (lv' := [(6, .int (zI ((τ 6) + ps))), (5, .int (zI ps)), (4, .int (zI tr)), (0, .ref (a 0)), (1, .ref b), (2, .int (zI pw)), (3, .int (zI n0))]) hx hb dX2_runDisc_19 hl (by decide) rfl (fun ls hl => ?_)
        have hsw := swt_rng (τ 6 + ps)
        have h9 := i4.2.2.1
        refine lv_iload hx hb dX2_runDisc_21 (lv_at hl 0 rfl) ?_
        refine x_callNR (As := [.int (zI ((τ 6) + ps))]) (rest := []) S hK (c_X6_minutesToSwitch l D cs ((τ 6) + ps) (by omega)) ⟨va_cnB 1 hts gX2_runDisc_X6_minutesToSwitch_n101 rfl rfl rfl hK.2.1 (hts (.initialized RX6) (by decide +kernel)) (by decide +kernel) ⟨(Nat.le_of_ble_eq_true rfl), (Nat.le_of_ble_eq_true rfl)⟩, hts (.static yX6_minutesToSwitch) (by decide +kernel), trivial⟩ trivial rfl hl.1 (Nat.le_of_ble_eq_true rfl) dX2_runDisc_23 ⟨Nat.zero_le _, Nat.zero_le _⟩ ?_
        refine lv_aload_n hx hb dX2_runDisc_26 rfl (lv_at hl 4 rfl) ?_
        refine lv_aload_n hx hb dX2_runDisc_27 rfl (lv_at hl 3 rfl) ?_
        refine h_g_settings S hin2 hK hH (hts (.fieldLink RX2 9 "EnergyDiscs$House" "settings" "[I") (by decide +kernel)) dX2_runDisc_28 ?_
        refine x_iconst hx hb dX2_runDisc_31 ?_
        refine h_l_set S hK hH (by omega) dX2_runDisc_32 ?_
        refine x_callVR (As := [.int (zI (τ 3))]) (rest := [.int (zI (swt ((τ 6) + ps)))]) S hK (c_X4_minutesToAge l D cs b g0 (τ 3) (by omega) (by omega)) (cwV 1 hts gX2_runDisc_X4_minutesToAge rfl rfl rfl (by decide +kernel) ⟨(Nat.le_of_ble_eq_true rfl), (Nat.le_of_ble_eq_true rfl)⟩) (x_rc hK hT rfl) hT rfl hl.1 (Nat.le_of_ble_eq_true rfl) dX2_runDisc_33 ⟨Nat.zero_le _, Nat.zero_le _⟩ ?_
        refine x_mmin S (by omega) (by omega) (hts (.methodLink RX2 107 Lib.Math.min.name) (by decide +kernel)) (hts (.static Lib.Math.min.name) (by decide +kernel)) (hts (.initialized "java/lang/Math") (by decide +kernel)) (hts (.code Lib.Math.min.name Lib.Math.min.code 2 (some .int)) (by decide +kernel)) hl.1 (Nat.le_of_ble_eq_true rfl) (Nat.le_of_ble_eq_true rfl) dX2_runDisc_36 (Nat.zero_le _) (Nat.zero_le _) ?_
        refine lv_istore (lv' := [(7, .int (zI (min (swt ((τ 6) + ps)) (max 1 ((τ 3) - g0 9))))), (6, .int (zI ((τ 6) + ps))), (5, .int (zI ps)), (4, .int (zI tr)), (0, .ref (a 0)), (1, .ref b), (2, .int (zI pw)), (3, .int (zI n0))]) hx hb dX2_runDisc_39 hl (by decide) rfl (fun ls hl => ?_)
        refine x_iconst hx hb dX2_runDisc_41 ?_
        refine lv_iload hx hb dX2_runDisc_42 (lv_at hl 0 rfl) ?_
        refine lv_iload_n hx hb dX2_runDisc_44 rfl (lv_at hl 7 rfl) ?_
        refine lv_iload hx hb dX2_runDisc_45 (lv_at hl 2 rfl) ?_
        refine x_isub hx hb dX2_runDisc_47 ?_
        refine x_mmin S (by omega) (by omega) (hts (.methodLink RX2 107 Lib.Math.min.name) (by decide +kernel)) (hts (.static Lib.Math.min.name) (by decide +kernel)) (hts (.initialized "java/lang/Math") (by decide +kernel)) (hts (.code Lib.Math.min.name Lib.Math.min.code 2 (some .int)) (by decide +kernel)) hl.1 (Nat.le_of_ble_eq_true rfl) (Nat.le_of_ble_eq_true rfl) dX2_runDisc_48 (Nat.zero_le _) (Nat.zero_le _) ?_
        refine x_mmax S (by omega) (by omega) (hts (.methodLink RX2 113 Lib.Math.max.name) (by decide +kernel)) (hts (.static Lib.Math.max.name) (by decide +kernel)) (hts (.initialized "java/lang/Math") (by decide +kernel)) (hts (.code Lib.Math.max.name Lib.Math.max.code 2 (some .int)) (by decide +kernel)) hl.1 (Nat.le_of_ble_eq_true rfl) (Nat.le_of_ble_eq_true rfl) dX2_runDisc_51 (Nat.zero_le _) (Nat.zero_le _) ?_
        refine lv_istore (lv' := [(8, .int (zI (max 1 (min (min (swt ((τ 6) + ps)) (max 1 ((τ 3) - g0 9))) (n0 - ps))))), (7, .int (zI (min (swt ((τ 6) + ps)) (max 1 ((τ 3) - g0 9))))), (6, .int (zI ((τ 6) + ps))), (5, .int (zI ps)), (4, .int (zI tr)), (0, .ref (a 0)), (1, .ref b), (2, .int (zI pw)), (3, .int (zI n0))]) hx hb dX2_runDisc_54 hl (by decide) rfl (fun ls hl => ?_)
        have hsp : 1 ≤ max 1 (min (min (swt (τ 6 + ps)) (max 1 (τ 3 - g0 9))) (n0 - ps)) ∧ max 1 (min (min (swt (τ 6 + ps)) (max 1 (τ 3 - g0 9))) (n0 - ps)) ≤ n0 - ps ∧ max 1 (min (min (swt (τ 6 + ps)) (max 1 (τ 3 - g0 9))) (n0 - ps)) ≤ swt (τ 6 + ps) ∧ max 1 (min (min (swt (τ 6 + ps)) (max 1 (τ 3 - g0 9))) (n0 - ps)) ≤ max 1 (τ 3 - g0 9) := by omega
        have hal := miN_alike (f := g0) (st := sset τ) (pw := pw) (t := τ 6 + ps) i4 hq (max 1 (min (min (swt (τ 6 + ps)) (max 1 (τ 3 - g0 9))) (n0 - ps))).toNat (by omega) (by show _ ≤ max 1 (τ 3 - g0 9); omega) (by omega)
        rw [show (((max 1 (min (min (swt (τ 6 + ps)) (max 1 (τ 3 - g0 9))) (n0 - ps))).toNat : Nat) : Int) = max 1 (min (min (swt (τ 6 + ps)) (max 1 (τ 3 - g0 9))) (n0 - ps)) by omega] at hal
        refine lv_iload hx hb dX2_runDisc_56 (lv_at hl 4 rfl) ?_
        refine lv_aload_n hx hb dX2_runDisc_58 rfl (lv_at hl 6 rfl) ?_
        refine lv_iload hx hb dX2_runDisc_59 (lv_at hl 0 rfl) ?_
        refine lv_iload_n hx hb dX2_runDisc_61 rfl (lv_at hl 7 rfl) ?_
        refine lv_aload_n hx hb dX2_runDisc_62 rfl (lv_at hl 5 rfl) ?_
        refine h_g_settings S hin2 hK hH (hts (.fieldLink RX2 9 "EnergyDiscs$House" "settings" "[I") (by decide +kernel)) dX2_runDisc_63 ?_
        refine lv_iload hx hb dX2_runDisc_66 (lv_at hl 2 rfl) ?_
        refine x_callNR (As := [.int (zI ((τ 6) + ps))]) (rest := [.ref (a 1), .int (zI pw), .int (zI (max 1 (min (min (swt ((τ 6) + ps)) (max 1 ((τ 3) - g0 9))) (n0 - ps)))), .ref b, .int (zI tr)]) S hK (c_X6_isNight l D cs ((τ 6) + ps) (by omega)) ⟨va_cnB 1 hts gX2_runDisc_X6_isNight_n116 rfl rfl rfl hK.2.2 (hts (.initialized RX6) (by decide +kernel)) (by decide +kernel) ⟨(Nat.le_of_ble_eq_true rfl), (Nat.le_of_ble_eq_true rfl)⟩, hts (.static yX6_isNight) (by decide +kernel), trivial⟩ trivial rfl hl.1 (Nat.le_of_ble_eq_true rfl) dX2_runDisc_68 ⟨Nat.zero_le _, Nat.zero_le _⟩ ?_
        refine x_callVM (As := [.int (zI (max 1 (min (min (swt ((τ 6) + ps)) (max 1 ((τ 3) - g0 9))) (n0 - ps)))), .int (zI pw), .ref (a 1), .int (zI (ngt ((τ 6) + ps)))]) (rest := [.int (zI tr)]) S hK (c_X4_run l D cs b g0 (a 1) (sset τ) (max 1 (min (min (swt ((τ 6) + ps)) (max 1 ((τ 3) - g0 9))) (n0 - ps))) pw (ngt ((τ 6) + ps)) (by exact i4) (by exact hq) (by omega) (by omega) (by unfold ngt; split; exact Or.inr rfl; exact Or.inl rfl) (by exact hne.2)) (cwV 4 hts gX2_runDisc_X4_run rfl rfl rfl (by decide +kernel) ⟨(Nat.le_of_ble_eq_true rfl), (Nat.le_of_ble_eq_true rfl)⟩) (x_rc hK hT rfl) ⟨hT, (hsAt_1 hH)⟩ rfl hl.1 (Nat.le_of_ble_eq_true rfl) dX2_runDisc_71 ⟨Nat.zero_le _, Nat.zero_le _⟩ hS (fun q hq => hq) (fun H locs hB hF hS => ?_)
        have hT : tAt D b (rnM g0 (sset τ) (max 1 (min (min (swt ((τ 6) + ps)) (max 1 ((τ 3) - g0 9))) (n0 - ps))) pw (ngt ((τ 6) + ps))) H := hB.1
        have hH : hsAt D cs a τ H := hsAt_F hH hF (hne)
        refine x_iadd hx hb dX2_runDisc_74 ?_
        refine lv_istore (lv' := [(4, .int (zI (tr + (rnT g0 (sset τ) (max 1 (min (min (swt ((τ 6) + ps)) (max 1 ((τ 3) - g0 9))) (n0 - ps))) pw)))), (8, .int (zI (max 1 (min (min (swt ((τ 6) + ps)) (max 1 ((τ 3) - g0 9))) (n0 - ps))))), (7, .int (zI (min (swt ((τ 6) + ps)) (max 1 ((τ 3) - g0 9))))), (6, .int (zI ((τ 6) + ps))), (5, .int (zI ps)), (0, .ref (a 0)), (1, .ref b), (2, .int (zI pw)), (3, .int (zI n0))]) hx hb dX2_runDisc_75 hl (by decide) rfl (fun ls hl => ?_)
        refine lv_iload hx hb dX2_runDisc_77 (lv_at hl 4 rfl) ?_
        refine lv_iload hx hb dX2_runDisc_79 (lv_at hl 1 rfl) ?_
        refine x_iadd hx hb dX2_runDisc_81 ?_
        refine lv_istore (lv' := [(5, .int (zI (ps + (max 1 (min (min (swt ((τ 6) + ps)) (max 1 ((τ 3) - g0 9))) (n0 - ps)))))), (4, .int (zI (tr + (rnT g0 (sset τ) (max 1 (min (min (swt ((τ 6) + ps)) (max 1 ((τ 3) - g0 9))) (n0 - ps))) pw)))), (8, .int (zI (max 1 (min (min (swt ((τ 6) + ps)) (max 1 ((τ 3) - g0 9))) (n0 - ps))))), (7, .int (zI (min (swt ((τ 6) + ps)) (max 1 ((τ 3) - g0 9))))), (6, .int (zI ((τ 6) + ps))), (0, .ref (a 0)), (1, .ref b), (2, .int (zI pw)), (3, .int (zI n0))]) hx hb dX2_runDisc_82 hl (by decide) rfl (fun ls hl => ?_)
        refine lv_goto (tgt := 6) hx hb dX2_runDisc_84 (by decide) ?_
        exact ih6 (ps + (max 1 (min (min (swt ((τ 6) + ps)) (max 1 ((τ 3) - g0 9))) (n0 - ps)))) (tr + (rnT g0 (sset τ) (max 1 (min (min (swt ((τ 6) + ps)) (max 1 ((τ 3) - g0 9))) (n0 - ps))) pw)) (rnM g0 (sset τ) (max 1 (min (min (swt ((τ 6) + ps)) (max 1 ((τ 3) - g0 9))) (n0 - ps))) pw (ngt ((τ 6) + ps))) (k0 + (max 1 (min (min (swt (τ 6 + ps)) (max 1 (τ 3 - g0 9))) (n0 - ps))).toNat) (by omega) (by omega) (by omega) (by rw [(miN_add k0 _).2, ← i2, ← i3, ← i1, ← hal.2]) (by rw [(miN_add k0 _).1, ← i3, ← i1, ← hal.1]) (by exact rOK_rnM i4 hq (by omega) hp) H locs hH hT hS ls (lv_sub hl [0, 1, 5, 6, 7, 8] rfl)
  exact lp6 ((n0 - (0 : Int)).toNat + 1) 0 0 f 0 (Nat.lt_succ_self _) (by omega) (by omega) (by rfl) (by rfl) (by exact hf) s.heap [] hH hT hS ls (lv_sub hl [0, 1, 2, 3, 4, 5] rfl)
set_option maxHeartbeats 4000000 in
set_option maxRecDepth 100000 in
theorem c_X2_minutesToTurn (l : Launch) (D : va_G) (cs : Nat → ClassId) (a : Int → Nat) (τ : Int → Int) (b : Nat) (f : Int → Int) (pw : Int) (hf : rOK f) (hs : sOK τ 0) (hp : 0 ≤ pw ∧ pw ≤ 48000) (hne : a 0 ≠ b ∧ a 1 ≠ b) : kM D cs l yX2_minutesToTurn wsX2_minutesToTurn ({ frames := 3, cells := 0, slots := 0, locals := 70 } : Room) [.ref (a 0), .ref b, .int (zI pw)] (fun H => hsAt D cs a τ H ∧ tAt D b f H) (some (.int (zI (mtR f (sset τ) pw (τ 6) 3000 0)))) (fun H => hsAt D cs a τ H ∧ tAt D b (mtS f (sset τ) pw (τ 6) 3000 0) H) (oneC b) := by
  refine Met.ofW (cc := cX2_minutesToTurn) (maxL := 4) (ret := (some .int)) (by decide) rfl ?_
  intro p e s m args below meth c s₁ B hml hv
  obtain ⟨rfl, hK, hH, hT⟩ := hv
  have hx := B.exec
  have hb := B.bytes
  have hr := B.returns
  have hts := atoms_spec (ws := wsX2_minutesToTurn) B.pre
  have hown : s.vm.findClass RX2 = some m.cls := findClass_of_methodNamed B.named
  have hlocks := B.notSynchronized
  have S : CallFix p m c cX2_minutesToTurn 4 s (([.ref (a 0), .ref b, .int (zI pw)] : List Value)).toArray wsX2_minutesToTurn RX2 := ⟨hx, hb, hml, hown, hts⟩
  have hin2 : ∀ w ∈ wsX20, w ∈ wsX2_minutesToTurn := by decide +kernel
  have hS : va_S (oneC b) s.heap s.heap [] := va_S.rf
  have hl := lv_entry ([.ref (a 0), .ref b, .int (zI pw)]) (n := 4) (Nat.le_of_ble_eq_true rfl)
  rw [lg_entry_eq]
  generalize (lg_sl ([.ref (a 0), .ref b, .int (zI pw)]) ++ List.replicate (4 - (lg_sl ([.ref (a 0), .ref b, .int (zI pw)])).length) Slot.unset).toArray = ls at hl ⊢
  have hl : lv_has ls 4 [(0, .ref (a 0)), (1, .ref b), (2, .int (zI pw))] := hl
  have hq := qOK_of hs
  have h6 : 0 ≤ τ 6 ∧ τ 6 < 1000000 := hs.2.2.2.2
  refine x_iconst hx hb dX2_minutesToTurn_0 ?_
  refine lv_istore_n (lv' := [(3, .int (zI 0)), (0, .ref (a 0)), (1, .ref b), (2, .int (zI pw))]) hx hb dX2_minutesToTurn_1 rfl hl (by decide) rfl (fun ls hl => ?_)
  have lp2 : ∀ (n : Nat) (j : Int) (g0 : Int → Int) (k0 : Nat) (f0 : Nat), f0 < n → (j = (k0 : Int) ∧ k0 + f0 = 3000) → (mtR f (sset τ) pw (τ 6) f0 j = mtR f (sset τ) pw (τ 6) 3000 0) → (mtS f (sset τ) pw (τ 6) f0 j = mtS f (sset τ) pw (τ 6) 3000 0) → (g0 = miN f (sset τ) pw (τ 6) k0) → (rOK g0) → ∀ (H : Heap) (locs : List Loc), hsAt D cs a τ H → tAt D b g0 H → va_S (oneC b) s.heap H locs → ∀ (ls : Array Slot), lv_has ls 4 [(3, .int (zI j)), (0, .ref (a 0)), (1, .ref b), (2, .int (zI pw))] → W p l e (headSpec wsX2_minutesToTurn ({ frames := 3, cells := 0, slots := 0, locals := 70 } : Room)).room s m ([.ref (a 0), .ref b, .int (zI pw)] : List Value).toArray below meth c H locs 0 0 (MQ below (kQ (some (.int (zI (mtR f (sset τ) pw (τ 6) 3000 0)))) (fun H => hsAt D cs a τ H ∧ tAt D b (mtS f (sset τ) pw (τ 6) 3000 0) H) (oneC b)) ([.ref (a 0), .ref b, .int (zI pw)] : List Value).toArray s 0 0 (oneC b)) (F0 m 2 ls []) := by
    intro n
    induction n with
    | zero => intro j g0 k0 f0 hms; exact absurd hms (Nat.not_lt_zero _)
    | succ n ih =>
      intro j g0 k0 f0 hms i1 i2 i5 i3 i4 H locs hH hT hS ls hl
      have ih2 := ih
      clear ih
      refine lv_iload_n hx hb dX2_minutesToTurn_2 rfl (lv_at hl 0 rfl) ?_
      refine x_sipush hx hb dX2_minutesToTurn_3 (by decide +kernel) ?_
      refine x_icmp_ge (tgt := 41) hx hb dX2_minutesToTurn_6 (by decide) (by omega) (by omega) (fun c_6 => ?_) (fun c_6 => ?_)
      · refine x_bipush hx hb dX2_minutesToTurn_41 (by decide +kernel) ?_
        exact x_iretM hx hb hr hlocks (by rw [← i2, show f0 = 0 by omega]; rfl) ⟨hH, (tAt_cong hT (by rw [← i5, show f0 = 0 by omega, show mtS f (sset τ) pw (τ 6) 0 j = miN f (sset τ) pw (τ 6) j.toNat from rfl, i3, show j.toNat = k0 by omega]))⟩ hS dX2_minutesToTurn_43
      · obtain ⟨g, hg⟩ : ∃ g, f0 = g + 1 := ⟨f0 - 1, by omega⟩
        have hk : j.toNat = k0 := by omega
        refine lv_aload_n hx hb dX2_minutesToTurn_9 rfl (lv_at hl 2 rfl) ?_
        refine x_iconst hx hb dX2_minutesToTurn_10 ?_
        refine lv_iload_n hx hb dX2_minutesToTurn_11 rfl (lv_at hl 3 rfl) ?_
        refine lv_aload_n hx hb dX2_minutesToTurn_12 rfl (lv_at hl 1 rfl) ?_
        refine h_g_settings S hin2 hK hH (hts (.fieldLink RX2 9 "EnergyDiscs$House" "settings" "[I") (by decide +kernel)) dX2_minutesToTurn_13 ?_
        refine lv_aload_n hx hb dX2_minutesToTurn_16 rfl (lv_at hl 1 rfl) ?_
        refine h_g_time S hin2 hK hH (hts (.fieldLink RX2 46 "EnergyDiscs$House" "time" "I") (by decide +kernel)) dX2_minutesToTurn_17 ?_
        refine lv_iload_n hx hb dX2_minutesToTurn_20 rfl (lv_at hl 0 rfl) ?_
        refine x_iadd hx hb dX2_minutesToTurn_21 ?_
        refine x_callNR (As := [.int (zI ((τ 6) + j))]) (rest := [.ref (a 1), .int (zI pw), .int (zI 1), .ref b]) S hK (c_X6_isNight l D cs ((τ 6) + j) (by omega)) ⟨va_cnB 1 hts gX2_minutesToTurn_X6_isNight_n116 rfl rfl rfl hK.2.2 (hts (.initialized RX6) (by decide +kernel)) (by decide +kernel) ⟨(Nat.le_of_ble_eq_true rfl), (Nat.le_of_ble_eq_true rfl)⟩, hts (.static yX6_isNight) (by decide +kernel), trivial⟩ trivial rfl hl.1 (Nat.le_of_ble_eq_true rfl) dX2_minutesToTurn_22 ⟨Nat.zero_le _, Nat.zero_le _⟩ ?_
        refine x_callVM (As := [.int (zI 1), .int (zI pw), .ref (a 1), .int (zI (ngt ((τ 6) + j)))]) (rest := []) S hK (c_X4_run l D cs b g0 (a 1) (sset τ) 1 pw (ngt ((τ 6) + j)) (by exact i4) (by exact hq) (by omega) (by omega) (by unfold ngt; split; exact Or.inr rfl; exact Or.inl rfl) (by exact hne.2)) (cwV 4 hts gX2_minutesToTurn_X4_run rfl rfl rfl (by decide +kernel) ⟨(Nat.le_of_ble_eq_true rfl), (Nat.le_of_ble_eq_true rfl)⟩) (x_rc hK hT rfl) ⟨hT, (hsAt_1 hH)⟩ rfl hl.1 (Nat.le_of_ble_eq_true rfl) dX2_minutesToTurn_25 ⟨Nat.zero_le _, Nat.zero_le _⟩ hS (fun q hq => hq) (fun H locs hB hF hS => ?_)
        have hT : tAt D b (rnM g0 (sset τ) 1 pw (ngt ((τ 6) + j))) H := hB.1
        have hH : hsAt D cs a τ H := hsAt_F hH hF (hne)
        have hrt := rnT_rng (n := 1) i4 hq (by decide) hp
        refine x_if_le (tgt := 35) hx hb dX2_minutesToTurn_28 (by decide) (by omega) (fun c_28 => ?_) (fun c_28 => ?_)
        · refine x_iinc (x := j) (lv' := [(3, .int (zI (j + 1))), (0, .ref (a 0)), (1, .ref b), (2, .int (zI pw))]) hx hb dX2_minutesToTurn_35 hl (k := 0) rfl (by decide) rfl (fun ls hl => ?_)
          refine lv_goto (tgt := 2) hx hb dX2_minutesToTurn_38 (by decide) ?_
          exact ih2 (j + 1) (rnM g0 (sset τ) 1 pw (ngt ((τ 6) + j))) (k0 + 1) (f0 - 1) (by omega) (by omega) (by rw [← i2, hg, mtR_go (by rw [hk, ← i3]; omega)]; rfl) (by rw [← i5, hg, mtS_go (by rw [hk, ← i3]; omega)]; rfl) (by rw [i3, i1.1]; rfl) (by exact rOK_rnM i4 hq (by decide) hp) H locs hH hT hS ls (lv_sub hl [0, 1, 2, 3] rfl)
        · refine lv_iload_n hx hb dX2_minutesToTurn_31 rfl (lv_at hl 0 rfl) ?_
          refine x_iconst hx hb dX2_minutesToTurn_32 ?_
          refine x_iadd hx hb dX2_minutesToTurn_33 ?_
          exact x_iretM hx hb hr hlocks (by rw [← i2, hg, mtR_hit (by rw [hk, ← i3]; omega)]) ⟨hH, (tAt_cong hT (by rw [← i5, hg, mtS_hit (by rw [hk, ← i3]; omega), hk, ← i3, i1.1]))⟩ hS dX2_minutesToTurn_34
  exact lp2 ((3000 : Nat) + 1) 0 f 0 3000 (Nat.lt_succ_self _) (by omega) (by rfl) (by rfl) (by rfl) (by exact hf) s.heap [] hH hT hS ls (lv_sub hl [0, 1, 2, 3] rfl)
set_option maxHeartbeats 4000000 in
set_option maxRecDepth 100000 in
theorem c_X2_elapse_bad (l : Launch) (D : va_G) (cs : Nat → ClassId) (a : Int → Nat) (τ : Int → Int) (w : Int) (hw : -2147483648 ≤ w ∧ w < 2147483648) (h6 : 0 ≤ τ 6 ∧ τ 6 < 1000000) (hn : wnP τ w < 0) : kR D cs l yX2_elapse wsX2_elapse ({ frames := 4, cells := 0, slots := 0, locals := 98 } : Room) [.ref (a 0), .int (zI w)] (fun H => hAt D cs a τ H) (some (.int (zI (wnP τ w)))) := by
  refine Met.ofW (cc := cX2_elapse) (maxL := 4) (ret := (some .int)) (by decide) rfl ?_
  intro p e s m args below meth c s₁ B hml hv
  obtain ⟨rfl, hK, hH⟩ := hv
  have hx := B.exec
  have hb := B.bytes
  have hr := B.returns
  have hts := atoms_spec (ws := wsX2_elapse) B.pre
  have hown : s.vm.findClass RX2 = some m.cls := findClass_of_methodNamed B.named
  have hlocks := B.notSynchronized
  have S : CallFix p m c cX2_elapse 4 s (([.ref (a 0), .int (zI w)] : List Value)).toArray wsX2_elapse RX2 := ⟨hx, hb, hml, hown, hts⟩
  have hin2 : ∀ w ∈ wsX20, w ∈ wsX2_elapse := by decide +kernel
  have hl := lv_entry ([.ref (a 0), .int (zI w)]) (n := 4) (Nat.le_of_ble_eq_true rfl)
  rw [lg_entry_eq]
  generalize (lg_sl ([.ref (a 0), .int (zI w)]) ++ List.replicate (4 - (lg_sl ([.ref (a 0), .int (zI w)])).length) Slot.unset).toArray = ls at hl ⊢
  have hl : lv_has ls 4 [(0, .ref (a 0)), (1, .int (zI w))] := hl
  unfold wnP at hn
  refine lv_iload_n hx hb dX2_elapse_0 rfl (lv_at hl 1 rfl) ?_
  refine x_iconst hx hb dX2_elapse_1 ?_
  refine x_icmp_lt (tgt := 12) hx hb dX2_elapse_2 (by decide) (by omega) (by omega) (fun c_2 => ?_) (fun c_2 => ?_)
  · refine x_bipush hx hb dX2_elapse_12 (by decide +kernel) ?_
    exact x_iretR hx hb hr hlocks (by unfold wnP; repeat (first | rw [if_pos (by omega)] | rw [if_neg (by omega)])) rfl dX2_elapse_14
  · refine lv_iload_n hx hb dX2_elapse_5 rfl (lv_at hl 1 rfl) ?_
    refine x_sipush hx hb dX2_elapse_6 (by decide +kernel) ?_
    refine x_icmp_le (tgt := 15) hx hb dX2_elapse_9 (by decide) (by omega) (by omega) (fun c_9 => ?_) (fun c_9 => ?_)
    · refine lv_aload_n hx hb dX2_elapse_15 rfl (lv_at hl 0 rfl) ?_
      refine h_g_time S hin2 hK (hAt_hs hH) (hts (.fieldLink RX2 46 "EnergyDiscs$House" "time" "I") (by decide +kernel)) dX2_elapse_16 ?_
      refine lv_iload_n hx hb dX2_elapse_19 rfl (lv_at hl 1 rfl) ?_
      refine x_iadd hx hb dX2_elapse_20 ?_
      refine x_ldc (v := 99999) hx hb hown (hts (.constant RX2 92 (zI 99999)) (by decide +kernel)) dX2_elapse_21 ?_
      refine x_icmp_le (tgt := 29) hx hb dX2_elapse_23 (by decide) (by omega) (by omega) (fun c_23 => ?_) (fun c_23 => ?_)
      · exfalso; rw [if_neg (by omega), if_neg (by omega)] at hn; omega
      · refine x_bipush hx hb dX2_elapse_26 (by decide +kernel) ?_
        exact x_iretR hx hb hr hlocks (by unfold wnP; repeat (first | rw [if_pos (by omega)] | rw [if_neg (by omega)])) rfl dX2_elapse_28
    · refine x_bipush hx hb dX2_elapse_12 (by decide +kernel) ?_
      exact x_iretR hx hb hr hlocks (by unfold wnP; repeat (first | rw [if_pos (by omega)] | rw [if_neg (by omega)])) rfl dX2_elapse_14
set_option maxHeartbeats 4000000 in
set_option maxRecDepth 100000 in
theorem c_X2_elapse_ok (l : Launch) (D : va_G) (cs : Nat → ClassId) (a : Int → Nat) (τ : Int → Int) (w : Int) (hw : -2147483648 ≤ w ∧ w < 2147483648) (hG : gOK τ 0) (hn : wnP τ w = 0) (hI : hI23 a) : kM D cs l yX2_elapse wsX2_elapse ({ frames := 4, cells := 0, slots := 0, locals := 98 } : Room) [.ref (a 0), .int (zI w)] (fun H => hAt D cs a τ H) (some (.int (zI (elT τ w.toNat (τ 7).toNat)))) (fun H => hAt D cs a (elF τ w) H) (hC23 a) := by
  refine Met.ofW (cc := cX2_elapse) (maxL := 4) (ret := (some .int)) (by decide) rfl ?_
  intro p e s m args below meth c s₁ B hml hv
  obtain ⟨rfl, hK, hH⟩ := hv
  have hx := B.exec
  have hb := B.bytes
  have hr := B.returns
  have hts := atoms_spec (ws := wsX2_elapse) B.pre
  have hown : s.vm.findClass RX2 = some m.cls := findClass_of_methodNamed B.named
  have hlocks := B.notSynchronized
  have S : CallFix p m c cX2_elapse 4 s (([.ref (a 0), .int (zI w)] : List Value)).toArray wsX2_elapse RX2 := ⟨hx, hb, hml, hown, hts⟩
  have hin2 : ∀ w ∈ wsX20, w ∈ wsX2_elapse := by decide +kernel
  have hS : va_S (hC23 a) s.heap s.heap [] := va_S.rf
  have hl := lv_entry ([.ref (a 0), .int (zI w)]) (n := 4) (Nat.le_of_ble_eq_true rfl)
  rw [lg_entry_eq]
  generalize (lg_sl ([.ref (a 0), .int (zI w)]) ++ List.replicate (4 - (lg_sl ([.ref (a 0), .int (zI w)])).length) Slot.unset).toArray = ls at hl ⊢
  have hl : lv_has ls 4 [(0, .ref (a 0)), (1, .int (zI w))] := hl
  have hwp := wnP_0 hn
  have h6 : 0 ≤ τ 6 ∧ τ 6 < 1000000 := hG.2.1.2.2.2.2
  have h7 := hG.1.1
  refine lv_iload_n hx hb dX2_elapse_0 rfl (lv_at hl 1 rfl) ?_
  refine x_iconst hx hb dX2_elapse_1 ?_
  refine x_icmp_lt (tgt := 12) hx hb dX2_elapse_2 (by decide) (by omega) (by omega) (fun c_2 => ?_) (fun c_2 => ?_)
  · exfalso; omega
  · refine lv_iload_n hx hb dX2_elapse_5 rfl (lv_at hl 1 rfl) ?_
    refine x_sipush hx hb dX2_elapse_6 (by decide +kernel) ?_
    refine x_icmp_le (tgt := 15) hx hb dX2_elapse_9 (by decide) (by omega) (by omega) (fun c_9 => ?_) (fun c_9 => ?_)
    · refine lv_aload_n hx hb dX2_elapse_15 rfl (lv_at hl 0 rfl) ?_
      refine h_g_time S hin2 hK (hAt_hs hH) (hts (.fieldLink RX2 46 "EnergyDiscs$House" "time" "I") (by decide +kernel)) dX2_elapse_16 ?_
      refine lv_iload_n hx hb dX2_elapse_19 rfl (lv_at hl 1 rfl) ?_
      refine x_iadd hx hb dX2_elapse_20 ?_
      refine x_ldc (v := 99999) hx hb hown (hts (.constant RX2 92 (zI 99999)) (by decide +kernel)) dX2_elapse_21 ?_
      refine x_icmp_le (tgt := 29) hx hb dX2_elapse_23 (by decide) (by omega) (by omega) (fun c_23 => ?_) (fun c_23 => ?_)
      · refine x_iconst hx hb dX2_elapse_29 ?_
        refine lv_istore_n (lv' := [(2, .int (zI 0)), (0, .ref (a 0)), (1, .int (zI w))]) hx hb dX2_elapse_30 rfl hl (by decide) rfl (fun ls hl => ?_)
        refine x_iconst hx hb dX2_elapse_31 ?_
        refine lv_istore_n (lv' := [(3, .int (zI 0)), (2, .int (zI 0)), (0, .ref (a 0)), (1, .int (zI w))]) hx hb dX2_elapse_32 rfl hl (by decide) rfl (fun ls hl => ?_)
        have lp33 : ∀ (n : Nat) (j : Int) (tr : Int) (τ1 : Int → Int) (k0 : Nat), (τ 7 - j).toNat < n → (j = (k0 : Int)) → (j ≤ τ 7) → (tr = elT τ w.toNat k0) → (τ1 = elR τ w.toNat k0) → ∀ (H : Heap) (locs : List Loc), hAt D cs a τ1 H → va_S (hC23 a) s.heap H locs → ∀ (ls : Array Slot), lv_has ls 4 [(3, .int (zI j)), (2, .int (zI tr)), (0, .ref (a 0)), (1, .int (zI w))] → W p l e (headSpec wsX2_elapse ({ frames := 4, cells := 0, slots := 0, locals := 98 } : Room)).room s m ([.ref (a 0), .int (zI w)] : List Value).toArray below meth c H locs 0 0 (MQ below (kQ (some (.int (zI (elT τ w.toNat (τ 7).toNat)))) (fun H => hAt D cs a (elF τ w) H) (hC23 a)) ([.ref (a 0), .int (zI w)] : List Value).toArray s 0 0 (hC23 a)) (F0 m 33 ls []) := by
          intro n
          induction n with
          | zero => intro j tr τ1 k0 hms; exact absurd hms (Nat.not_lt_zero _)
          | succ n ih =>
            intro j tr τ1 k0 hms i1 i0 i2 i3 H locs hH hS ls hl
            have hel := elR_inv hG w.toNat k0 (by omega)
            rw [← i3] at hel
            have e7 := hel.2 7 (by decide)
            have e6 := hel.2 6 (by decide)
            have ih33 := ih
            clear ih
            refine lv_iload_n hx hb dX2_elapse_33 rfl (lv_at hl 0 rfl) ?_
            refine lv_aload_n hx hb dX2_elapse_34 rfl (lv_at hl 2 rfl) ?_
            refine h_g_meterCount S hin2 hK (hAt_hs hH) (hts (.fieldLink RX2 32 "EnergyDiscs$House" "meterCount" "I") (by decide +kernel)) dX2_elapse_35 ?_
            refine x_icmp_ge (tgt := 66) hx hb dX2_elapse_38 (by decide) (by omega) (by omega) (fun c_38 => ?_) (fun c_38 => ?_)
            · refine lv_aload_n hx hb dX2_elapse_66 rfl (lv_at hl 2 rfl) ?_
              refine lv_dup hx hb dX2_elapse_67 rfl ?_
              refine h_g_time S hin2 hK (hAt_hs hH) (hts (.fieldLink RX2 46 "EnergyDiscs$House" "time" "I") (by decide +kernel)) dX2_elapse_68 ?_
              refine lv_iload_n hx hb dX2_elapse_71 rfl (lv_at hl 3 rfl) ?_
              refine x_iadd hx hb dX2_elapse_72 ?_
              refine h_p_time S hin2 hK hH hI hS (bC_of (by decide) (by decide)) (hts (.fieldLink RX2 46 "EnergyDiscs$House" "time" "I") (by decide +kernel)) dX2_elapse_73 (fun H locs hH hF hS => ?_)
              refine lv_iload_n hx hb dX2_elapse_76 rfl (lv_at hl 1 rfl) ?_
              exact x_iretM hx hb hr hlocks (by rw [i2, show (τ 7).toNat = k0 by omega]) (hAt_cong hH (by unfold elF; rw [show (τ 7).toNat = k0 by omega, ← i3]; exact hEq_rfl _)) hS dX2_elapse_77
            · have hd2 := hel.1.2.2 j (by omega) (by omega)
              have hcp := cpow_rng hel.1.1 j
              have hnm := hNe_m hI (e := j) (by omega)
              refine lv_iload_n hx hb dX2_elapse_41 rfl (lv_at hl 1 rfl) ?_
              refine lv_aload_n hx hb dX2_elapse_42 rfl (lv_at hl 2 rfl) ?_
              refine lv_aload_n hx hb dX2_elapse_43 rfl (lv_at hl 2 rfl) ?_
              refine h_g_meters S hin2 hK (hAt_hs hH) (hts (.fieldLink RX2 17 "EnergyDiscs$House" "meters" "[LEnergyDiscs$Meter;") (by decide +kernel)) dX2_elapse_44 ?_
              refine lv_iload_n hx hb dX2_elapse_47 rfl (lv_at hl 0 rfl) ?_
              refine h_l_meters S hK hH (by omega) dX2_elapse_48 ?_
              refine lv_aload_n hx hb dX2_elapse_49 rfl (lv_at hl 2 rfl) ?_
              refine lv_iload_n hx hb dX2_elapse_50 rfl (lv_at hl 0 rfl) ?_
              refine x_callVR (As := [.int (zI j)]) (rest := [.ref (a (4 + j)), .ref (a 0), .int (zI tr)]) S hK (c_X2_powerOf l D cs a τ1 j (by exact hel.1.1) (by omega)) (cwV 1 hts gX2_elapse_X2_powerOf rfl rfl rfl (by decide +kernel) ⟨(Nat.le_of_ble_eq_true rfl), (Nat.le_of_ble_eq_true rfl)⟩) (x_rc hK (hsAt_0 (hAt_hs hH)) rfl) hH rfl hl.1 (Nat.le_of_ble_eq_true rfl) dX2_elapse_51 ⟨Nat.zero_le _, Nat.zero_le _⟩ ?_
              refine lv_iload_n hx hb dX2_elapse_54 rfl (lv_at hl 3 rfl) ?_
              refine x_callVM (As := [.ref (a (4 + j)), .int (zI (cpow τ1 j)), .int (zI w)]) (rest := [.int (zI tr)]) S hK (c_X2_runDisc l D cs a τ1 (a (4 + j)) (mrec τ1 j) (cpow τ1 j) w (by exact rOK_of hd2) (by exact hel.1.2.1) (by omega) (by omega) (by exact ⟨hnm.1.symm, hnm.2.symm⟩)) (cwV 3 hts gX2_elapse_X2_runDisc rfl rfl rfl (by decide +kernel) ⟨(Nat.le_of_ble_eq_true rfl), (Nat.le_of_ble_eq_true rfl)⟩) (x_rc hK (hsAt_0 (hAt_hs hH)) rfl) ⟨(hAt_hs hH), (hAt_m hH (e := j) (by omega))⟩ rfl hl.1 (Nat.le_of_ble_eq_true rfl) dX2_elapse_55 ⟨Nat.zero_le _, Nat.zero_le _⟩ hS (hC_m (by omega)) (fun H locs hB hF hS => ?_)
              have hH : hAt D cs a (inM τ1 j (miN (mrec τ1 j) (sset τ1) (cpow τ1 j) (τ1 6) w.toNat)) H := hAt_setM hH hI (by omega) hB.2 hF
              refine x_iadd hx hb dX2_elapse_58 ?_
              refine lv_istore_n (lv' := [(2, .int (zI (tr + (miT (mrec τ1 j) (sset τ1) (cpow τ1 j) (τ1 6) w.toNat)))), (3, .int (zI j)), (0, .ref (a 0)), (1, .int (zI w))]) hx hb dX2_elapse_59 rfl hl (by decide) rfl (fun ls hl => ?_)
              refine x_iinc (x := j) (lv' := [(3, .int (zI (j + 1))), (2, .int (zI (tr + (miT (mrec τ1 j) (sset τ1) (cpow τ1 j) (τ1 6) w.toNat)))), (0, .ref (a 0)), (1, .int (zI w))]) hx hb dX2_elapse_60 hl (k := 1) rfl (by decide) rfl (fun ls hl => ?_)
              refine lv_goto (tgt := 33) hx hb dX2_elapse_63 (by decide) ?_
              exact ih33 (j + 1) (tr + (miT (mrec τ1 j) (sset τ1) (cpow τ1 j) (τ1 6) w.toNat)) (inM τ1 j (miN (mrec τ1 j) (sset τ1) (cpow τ1 j) (τ1 6) w.toNat)) (k0 + 1) (by omega) (by omega) (by omega) (by rw [i2, i3, i1]; rfl) (by rw [i3, i1]; rfl) H locs hH hS ls (lv_sub hl [0, 1, 2, 3] rfl)
        exact lp33 ((τ 7 - (0 : Int)).toNat + 1) 0 0 τ 0 (Nat.lt_succ_self _) (by omega) (by omega) (by rfl) (by rfl) s.heap [] hH hS ls (lv_sub hl [0, 1, 2, 3] rfl)
      · exfalso; omega
    · exfalso; omega
set_option maxHeartbeats 4000000 in
set_option maxRecDepth 100000 in
theorem c_X2_loadsOn (l : Launch) (D : va_G) (cs : Nat → ClassId) (a : Int → Nat) (τ : Int → Int) (h8 : 0 ≤ τ 8 ∧ τ 8 ≤ 12) (h012 : ∀ j : Int, 0 ≤ j → j < τ 8 → τ (102 + 3 * j + 2) = 0 ∨ τ (102 + 3 * j + 2) = 1) : kR D cs l yX2_loadsOn wsX2_loadsOn ({ frames := 0, cells := 0, slots := 0, locals := 0 } : Room) [.ref (a 0)] (fun H => hAt D cs a τ H) (some (.int (zI (onC τ (τ 8).toNat)))) := by
  refine Met.ofW (cc := cX2_loadsOn) (maxL := 3) (ret := (some .int)) (by decide) rfl ?_
  intro p e s m args below meth c s₁ B hml hv
  obtain ⟨rfl, hK, hH⟩ := hv
  have hx := B.exec
  have hb := B.bytes
  have hr := B.returns
  have hts := atoms_spec (ws := wsX2_loadsOn) B.pre
  have hown : s.vm.findClass RX2 = some m.cls := findClass_of_methodNamed B.named
  have hlocks := B.notSynchronized
  have S : CallFix p m c cX2_loadsOn 3 s (([.ref (a 0)] : List Value)).toArray wsX2_loadsOn RX2 := ⟨hx, hb, hml, hown, hts⟩
  have hin2 : ∀ w ∈ wsX20, w ∈ wsX2_loadsOn := by decide +kernel
  have hin3 : ∀ w ∈ wsX30, w ∈ wsX2_loadsOn := by decide +kernel
  have hl := lv_entry ([.ref (a 0)]) (n := 3) (Nat.le_of_ble_eq_true rfl)
  rw [lg_entry_eq]
  generalize (lg_sl ([.ref (a 0)]) ++ List.replicate (3 - (lg_sl ([.ref (a 0)])).length) Slot.unset).toArray = ls at hl ⊢
  have hl : lv_has ls 3 [(0, .ref (a 0))] := hl
  refine x_iconst hx hb dX2_loadsOn_0 ?_
  refine lv_istore_n (lv' := [(1, .int (zI 0)), (0, .ref (a 0))]) hx hb dX2_loadsOn_1 rfl hl (by decide) rfl (fun ls hl => ?_)
  refine x_iconst hx hb dX2_loadsOn_2 ?_
  refine lv_istore_n (lv' := [(2, .int (zI 0)), (1, .int (zI 0)), (0, .ref (a 0))]) hx hb dX2_loadsOn_3 rfl hl (by decide) rfl (fun ls hl => ?_)
  have lp4 : ∀ (n : Nat) (j : Int) (acc : Int) (n0 : Nat), (τ 8 - j).toNat < n → (0 ≤ j ∧ j ≤ τ 8) → (j = (n0 : Int)) → (acc = onC τ n0) → (0 ≤ acc ∧ acc < 2147483648) → ∀ (ls : Array Slot), lv_has ls 3 [(2, .int (zI j)), (1, .int (zI acc)), (0, .ref (a 0))] → W p l e (headSpec wsX2_loadsOn ({ frames := 0, cells := 0, slots := 0, locals := 0 } : Room)).room s m ([.ref (a 0)] : List Value).toArray below meth c s.heap [] 0 0 (MQ below (kS (some (.int (zI (onC τ (τ 8).toNat))))) ([.ref (a 0)] : List Value).toArray s 0 0 (fun _ => False)) (F0 m 4 ls []) := by
    intro n
    induction n with
    | zero => intro j acc n0 hms; exact absurd hms (Nat.not_lt_zero _)
    | succ n ih =>
      intro j acc n0 hms hj hn ha hr0 ls hl
      have ih4 := ih
      clear ih
      refine lv_iload_n hx hb dX2_loadsOn_4 rfl (lv_at hl 0 rfl) ?_
      refine lv_aload_n hx hb dX2_loadsOn_5 rfl (lv_at hl 2 rfl) ?_
      refine h_g_loadCount S hin2 hK (hAt_hs hH) (hts (.fieldLink RX2 40 "EnergyDiscs$House" "loadCount" "I") (by decide +kernel)) dX2_loadsOn_6 ?_
      refine x_icmp_ge (tgt := 40) hx hb dX2_loadsOn_9 (by decide) (by omega) (by omega) (fun c_9 => ?_) (fun c_9 => ?_)
      · refine lv_iload_n hx hb dX2_loadsOn_40 rfl (lv_at hl 1 rfl) ?_
        exact x_iretR hx hb hr hlocks (by rw [ha]; congr 1; omega) rfl dX2_loadsOn_41
      · refine lv_iload_n hx hb dX2_loadsOn_12 rfl (lv_at hl 1 rfl) ?_
        refine lv_aload_n hx hb dX2_loadsOn_13 rfl (lv_at hl 2 rfl) ?_
        refine h_g_loads S hin2 hK (hAt_hs hH) (hts (.fieldLink RX2 23 "EnergyDiscs$House" "loads" "[LEnergyDiscs$Load;") (by decide +kernel)) dX2_loadsOn_14 ?_
        refine lv_iload_n hx hb dX2_loadsOn_17 rfl (lv_at hl 0 rfl) ?_
        refine h_l_loads S hK hH (by omega) dX2_loadsOn_18 ?_
        have h01 := h012 j (by omega) (by omega)
        refine hl_g_on S hin3 hK hH (el := j) (by omega) (hts (.fieldLink RX2 71 "EnergyDiscs$Load" "on" "Z") (by decide +kernel)) dX2_loadsOn_19 ?_
        refine x_if_eq (tgt := 31) hx hb dX2_loadsOn_22 (by decide) (by omega) (fun c_22 => ?_) (fun c_22 => ?_)
        · refine x_iconst hx hb dX2_loadsOn_31 ?_
          have hsh := shI_rng (a := 1) (k := j) (by decide) (by omega)
          refine x_ior hx hb (by omega) (by omega) dX2_loadsOn_32 ?_
          refine lv_istore_n (lv' := [(1, .int (zI (orI acc 0))), (2, .int (zI j)), (0, .ref (a 0))]) hx hb dX2_loadsOn_33 rfl hl (by decide) rfl (fun ls hl => ?_)
          refine x_iinc (x := j) (lv' := [(2, .int (zI (j + 1))), (1, .int (zI (orI acc 0))), (0, .ref (a 0))]) hx hb dX2_loadsOn_34 hl (k := 1) rfl (by decide) rfl (fun ls hl => ?_)
          refine lv_goto (tgt := 4) hx hb dX2_loadsOn_37 (by decide) ?_
          exact ih4 (j + 1) (orI acc 0) (n0 + 1) (by omega) (by omega) (by omega) (by rw [ha]; show _ = orI (onC τ n0) _; rw [← hn]; first | rw [if_pos (by exact c_22)] | rw [if_neg (by exact c_22)]) (by refine orI_rng hr0 ?_; first | exact shI_rng (by decide) (by omega) | decide) ls (lv_sub hl [0, 1, 2] rfl)
        · refine x_iconst hx hb dX2_loadsOn_25 ?_
          refine lv_iload_n hx hb dX2_loadsOn_26 rfl (lv_at hl 0 rfl) ?_
          refine x_ishl hx hb (by omega) (by omega) dX2_loadsOn_27 ?_
          refine lv_goto (tgt := 32) hx hb dX2_loadsOn_28 (by decide) ?_
          have hsh := shI_rng (a := 1) (k := j) (by decide) (by omega)
          refine x_ior hx hb (by omega) (by omega) dX2_loadsOn_32 ?_
          refine lv_istore_n (lv' := [(1, .int (zI (orI acc (shI 1 j)))), (2, .int (zI j)), (0, .ref (a 0))]) hx hb dX2_loadsOn_33 rfl hl (by decide) rfl (fun ls hl => ?_)
          refine x_iinc (x := j) (lv' := [(2, .int (zI (j + 1))), (1, .int (zI (orI acc (shI 1 j)))), (0, .ref (a 0))]) hx hb dX2_loadsOn_34 hl (k := 1) rfl (by decide) rfl (fun ls hl => ?_)
          refine lv_goto (tgt := 4) hx hb dX2_loadsOn_37 (by decide) ?_
          exact ih4 (j + 1) (orI acc (shI 1 j)) (n0 + 1) (by omega) (by omega) (by omega) (by rw [ha]; show _ = orI (onC τ n0) _; rw [← hn]; first | rw [if_pos (by exact c_22)] | rw [if_neg (by exact c_22)]) (by refine orI_rng hr0 ?_; first | exact shI_rng (by decide) (by omega) | decide) ls (lv_sub hl [0, 1, 2] rfl)
  exact lp4 ((τ 8 - (0 : Int)).toNat + 1) 0 0 0 (Nat.lt_succ_self _) (by omega) (by omega) (by rfl) (by omega) ls (lv_sub hl [0, 1, 2] rfl)
set_option maxHeartbeats 4000000 in
set_option maxRecDepth 100000 in
theorem c_X2_sealsBroken (l : Launch) (D : va_G) (cs : Nat → ClassId) (a : Int → Nat) (τ : Int → Int) (h7 : 0 ≤ τ 7 ∧ τ 7 ≤ 7) (h012 : ∀ j : Int, 0 ≤ j → j < τ 7 → τ (11 + 13 * j + 7) = 0 ∨ τ (11 + 13 * j + 7) = 1) : kR D cs l yX2_sealsBroken wsX2_sealsBroken ({ frames := 0, cells := 0, slots := 0, locals := 0 } : Room) [.ref (a 0)] (fun H => hAt D cs a τ H) (some (.int (zI (brC τ (τ 7).toNat)))) := by
  refine Met.ofW (cc := cX2_sealsBroken) (maxL := 3) (ret := (some .int)) (by decide) rfl ?_
  intro p e s m args below meth c s₁ B hml hv
  obtain ⟨rfl, hK, hH⟩ := hv
  have hx := B.exec
  have hb := B.bytes
  have hr := B.returns
  have hts := atoms_spec (ws := wsX2_sealsBroken) B.pre
  have hown : s.vm.findClass RX2 = some m.cls := findClass_of_methodNamed B.named
  have hlocks := B.notSynchronized
  have S : CallFix p m c cX2_sealsBroken 3 s (([.ref (a 0)] : List Value)).toArray wsX2_sealsBroken RX2 := ⟨hx, hb, hml, hown, hts⟩
  have hin2 : ∀ w ∈ wsX20, w ∈ wsX2_sealsBroken := by decide +kernel
  have hin4 : ∀ w ∈ wsX40, w ∈ wsX2_sealsBroken := by decide +kernel
  have hl := lv_entry ([.ref (a 0)]) (n := 3) (Nat.le_of_ble_eq_true rfl)
  rw [lg_entry_eq]
  generalize (lg_sl ([.ref (a 0)]) ++ List.replicate (3 - (lg_sl ([.ref (a 0)])).length) Slot.unset).toArray = ls at hl ⊢
  have hl : lv_has ls 3 [(0, .ref (a 0))] := hl
  refine x_iconst hx hb dX2_sealsBroken_0 ?_
  refine lv_istore_n (lv' := [(1, .int (zI 0)), (0, .ref (a 0))]) hx hb dX2_sealsBroken_1 rfl hl (by decide) rfl (fun ls hl => ?_)
  refine x_iconst hx hb dX2_sealsBroken_2 ?_
  refine lv_istore_n (lv' := [(2, .int (zI 0)), (1, .int (zI 0)), (0, .ref (a 0))]) hx hb dX2_sealsBroken_3 rfl hl (by decide) rfl (fun ls hl => ?_)
  have lp4 : ∀ (n : Nat) (j : Int) (acc : Int) (n0 : Nat), (τ 7 - j).toNat < n → (0 ≤ j ∧ j ≤ τ 7) → (j = (n0 : Int)) → (acc = brC τ n0) → (0 ≤ acc ∧ acc < 2147483648) → ∀ (ls : Array Slot), lv_has ls 3 [(2, .int (zI j)), (1, .int (zI acc)), (0, .ref (a 0))] → W p l e (headSpec wsX2_sealsBroken ({ frames := 0, cells := 0, slots := 0, locals := 0 } : Room)).room s m ([.ref (a 0)] : List Value).toArray below meth c s.heap [] 0 0 (MQ below (kS (some (.int (zI (brC τ (τ 7).toNat))))) ([.ref (a 0)] : List Value).toArray s 0 0 (fun _ => False)) (F0 m 4 ls []) := by
    intro n
    induction n with
    | zero => intro j acc n0 hms; exact absurd hms (Nat.not_lt_zero _)
    | succ n ih =>
      intro j acc n0 hms hj hn ha hr0 ls hl
      have ih4 := ih
      clear ih
      refine lv_iload_n hx hb dX2_sealsBroken_4 rfl (lv_at hl 0 rfl) ?_
      refine lv_aload_n hx hb dX2_sealsBroken_5 rfl (lv_at hl 2 rfl) ?_
      refine h_g_meterCount S hin2 hK (hAt_hs hH) (hts (.fieldLink RX2 32 "EnergyDiscs$House" "meterCount" "I") (by decide +kernel)) dX2_sealsBroken_6 ?_
      refine x_icmp_ge (tgt := 40) hx hb dX2_sealsBroken_9 (by decide) (by omega) (by omega) (fun c_9 => ?_) (fun c_9 => ?_)
      · refine lv_iload_n hx hb dX2_sealsBroken_40 rfl (lv_at hl 1 rfl) ?_
        exact x_iretR hx hb hr hlocks (by rw [ha]; congr 1; omega) rfl dX2_sealsBroken_41
      · refine lv_iload_n hx hb dX2_sealsBroken_12 rfl (lv_at hl 1 rfl) ?_
        refine lv_aload_n hx hb dX2_sealsBroken_13 rfl (lv_at hl 2 rfl) ?_
        refine h_g_meters S hin2 hK (hAt_hs hH) (hts (.fieldLink RX2 17 "EnergyDiscs$House" "meters" "[LEnergyDiscs$Meter;") (by decide +kernel)) dX2_sealsBroken_14 ?_
        refine lv_iload_n hx hb dX2_sealsBroken_17 rfl (lv_at hl 0 rfl) ?_
        refine h_l_meters S hK hH (by omega) dX2_sealsBroken_18 ?_
        have h01 := h012 j (by omega) (by omega)
        refine hm_g_broken S hin4 hK hH (el := j) (by omega) (hts (.fieldLink RX2 75 "EnergyDiscs$Meter" "broken" "Z") (by decide +kernel)) dX2_sealsBroken_19 ?_
        refine x_if_eq (tgt := 31) hx hb dX2_sealsBroken_22 (by decide) (by omega) (fun c_22 => ?_) (fun c_22 => ?_)
        · refine x_iconst hx hb dX2_sealsBroken_31 ?_
          have hsh := shI_rng (a := 1) (k := j) (by decide) (by omega)
          refine x_ior hx hb (by omega) (by omega) dX2_sealsBroken_32 ?_
          refine lv_istore_n (lv' := [(1, .int (zI (orI acc 0))), (2, .int (zI j)), (0, .ref (a 0))]) hx hb dX2_sealsBroken_33 rfl hl (by decide) rfl (fun ls hl => ?_)
          refine x_iinc (x := j) (lv' := [(2, .int (zI (j + 1))), (1, .int (zI (orI acc 0))), (0, .ref (a 0))]) hx hb dX2_sealsBroken_34 hl (k := 1) rfl (by decide) rfl (fun ls hl => ?_)
          refine lv_goto (tgt := 4) hx hb dX2_sealsBroken_37 (by decide) ?_
          exact ih4 (j + 1) (orI acc 0) (n0 + 1) (by omega) (by omega) (by omega) (by rw [ha]; show _ = orI (brC τ n0) _; rw [← hn]; first | rw [if_pos (by exact c_22)] | rw [if_neg (by exact c_22)]) (by refine orI_rng hr0 ?_; first | exact shI_rng (by decide) (by omega) | decide) ls (lv_sub hl [0, 1, 2] rfl)
        · refine x_iconst hx hb dX2_sealsBroken_25 ?_
          refine lv_iload_n hx hb dX2_sealsBroken_26 rfl (lv_at hl 0 rfl) ?_
          refine x_ishl hx hb (by omega) (by omega) dX2_sealsBroken_27 ?_
          refine lv_goto (tgt := 32) hx hb dX2_sealsBroken_28 (by decide) ?_
          have hsh := shI_rng (a := 1) (k := j) (by decide) (by omega)
          refine x_ior hx hb (by omega) (by omega) dX2_sealsBroken_32 ?_
          refine lv_istore_n (lv' := [(1, .int (zI (orI acc (shI 1 j)))), (2, .int (zI j)), (0, .ref (a 0))]) hx hb dX2_sealsBroken_33 rfl hl (by decide) rfl (fun ls hl => ?_)
          refine x_iinc (x := j) (lv' := [(2, .int (zI (j + 1))), (1, .int (zI (orI acc (shI 1 j)))), (0, .ref (a 0))]) hx hb dX2_sealsBroken_34 hl (k := 1) rfl (by decide) rfl (fun ls hl => ?_)
          refine lv_goto (tgt := 4) hx hb dX2_sealsBroken_37 (by decide) ?_
          exact ih4 (j + 1) (orI acc (shI 1 j)) (n0 + 1) (by omega) (by omega) (by omega) (by rw [ha]; show _ = orI (brC τ n0) _; rw [← hn]; first | rw [if_pos (by exact c_22)] | rw [if_neg (by exact c_22)]) (by refine orI_rng hr0 ?_; first | exact shI_rng (by decide) (by omega) | decide) ls (lv_sub hl [0, 1, 2] rfl)
  exact lp4 ((τ 7 - (0 : Int)).toNat + 1) 0 0 0 (Nat.lt_succ_self _) (by omega) (by omega) (by rfl) (by omega) ls (lv_sub hl [0, 1, 2] rfl)
set_option maxHeartbeats 4000000 in
set_option maxRecDepth 100000 in
theorem c_X2_allTurns (l : Launch) (D : va_G) (cs : Nat → ClassId) (a : Int → Nat) (τ : Int → Int) (h7 : 0 ≤ τ 7 ∧ τ 7 ≤ 7) : kR D cs l yX2_allTurns wsX2_allTurns ({ frames := 1, cells := 0, slots := 0, locals := 20 } : Room) [.ref (a 0)] (fun H => hAt D cs a τ H) (some (.int (zI (trS τ (τ 7).toNat)))) := by
  refine Met.ofW (cc := cX2_allTurns) (maxL := 3) (ret := (some .int)) (by decide) rfl ?_
  intro p e s m args below meth c s₁ B hml hv
  obtain ⟨rfl, hK, hH⟩ := hv
  have hx := B.exec
  have hb := B.bytes
  have hr := B.returns
  have hts := atoms_spec (ws := wsX2_allTurns) B.pre
  have hown : s.vm.findClass RX2 = some m.cls := findClass_of_methodNamed B.named
  have hlocks := B.notSynchronized
  have S : CallFix p m c cX2_allTurns 3 s (([.ref (a 0)] : List Value)).toArray wsX2_allTurns RX2 := ⟨hx, hb, hml, hown, hts⟩
  have hin2 : ∀ w ∈ wsX20, w ∈ wsX2_allTurns := by decide +kernel
  have hl := lv_entry ([.ref (a 0)]) (n := 3) (Nat.le_of_ble_eq_true rfl)
  rw [lg_entry_eq]
  generalize (lg_sl ([.ref (a 0)]) ++ List.replicate (3 - (lg_sl ([.ref (a 0)])).length) Slot.unset).toArray = ls at hl ⊢
  have hl : lv_has ls 3 [(0, .ref (a 0))] := hl
  refine x_iconst hx hb dX2_allTurns_0 ?_
  refine lv_istore_n (lv' := [(1, .int (zI 0)), (0, .ref (a 0))]) hx hb dX2_allTurns_1 rfl hl (by decide) rfl (fun ls hl => ?_)
  refine x_iconst hx hb dX2_allTurns_2 ?_
  refine lv_istore_n (lv' := [(2, .int (zI 0)), (1, .int (zI 0)), (0, .ref (a 0))]) hx hb dX2_allTurns_3 rfl hl (by decide) rfl (fun ls hl => ?_)
  have lp4 : ∀ (n : Nat) (j : Int) (acc : Int) (n0 : Nat), (τ 7 - j).toNat < n → (0 ≤ j ∧ j ≤ τ 7) → (j = (n0 : Int)) → (acc = trS τ n0) → ∀ (ls : Array Slot), lv_has ls 3 [(2, .int (zI j)), (1, .int (zI acc)), (0, .ref (a 0))] → W p l e (headSpec wsX2_allTurns ({ frames := 1, cells := 0, slots := 0, locals := 20 } : Room)).room s m ([.ref (a 0)] : List Value).toArray below meth c s.heap [] 0 0 (MQ below (kS (some (.int (zI (trS τ (τ 7).toNat))))) ([.ref (a 0)] : List Value).toArray s 0 0 (fun _ => False)) (F0 m 4 ls []) := by
    intro n
    induction n with
    | zero => intro j acc n0 hms; exact absurd hms (Nat.not_lt_zero _)
    | succ n ih =>
      intro j acc n0 hms hj hn ha ls hl
      have ih4 := ih
      clear ih
      refine lv_iload_n hx hb dX2_allTurns_4 rfl (lv_at hl 0 rfl) ?_
      refine lv_aload_n hx hb dX2_allTurns_5 rfl (lv_at hl 2 rfl) ?_
      refine h_g_meterCount S hin2 hK (hAt_hs hH) (hts (.fieldLink RX2 32 "EnergyDiscs$House" "meterCount" "I") (by decide +kernel)) dX2_allTurns_6 ?_
      refine x_icmp_ge (tgt := 30) hx hb dX2_allTurns_9 (by decide) (by omega) (by omega) (fun c_9 => ?_) (fun c_9 => ?_)
      · refine lv_iload_n hx hb dX2_allTurns_30 rfl (lv_at hl 1 rfl) ?_
        exact x_iretR hx hb hr hlocks (by rw [ha]; congr 1; omega) rfl dX2_allTurns_31
      · refine lv_iload_n hx hb dX2_allTurns_12 rfl (lv_at hl 1 rfl) ?_
        refine lv_aload_n hx hb dX2_allTurns_13 rfl (lv_at hl 2 rfl) ?_
        refine h_g_meters S hin2 hK (hAt_hs hH) (hts (.fieldLink RX2 17 "EnergyDiscs$House" "meters" "[LEnergyDiscs$Meter;") (by decide +kernel)) dX2_allTurns_14 ?_
        refine lv_iload_n hx hb dX2_allTurns_17 rfl (lv_at hl 0 rfl) ?_
        refine h_l_meters S hK hH (by omega) dX2_allTurns_18 ?_
        refine x_callVR (As := []) (rest := [.int (zI acc)]) S hK (c_X4_turns l D cs (a (4 + j)) (mrec τ j) ) (cwV 0 hts gX2_allTurns_X4_turns rfl rfl rfl (by decide +kernel) ⟨(Nat.le_of_ble_eq_true rfl), (Nat.le_of_ble_eq_true rfl)⟩) (x_rc hK (hAt_m hH (e := j) (by omega)) rfl) (hAt_m hH (e := j) (by omega)) rfl hl.1 (Nat.le_of_ble_eq_true rfl) dX2_allTurns_19 ⟨Nat.zero_le _, Nat.zero_le _⟩ ?_
        refine x_iadd hx hb dX2_allTurns_22 ?_
        refine lv_istore_n (lv' := [(1, .int (zI (acc + ((mrec τ j) 3 + (mrec τ j) 4)))), (2, .int (zI j)), (0, .ref (a 0))]) hx hb dX2_allTurns_23 rfl hl (by decide) rfl (fun ls hl => ?_)
        refine x_iinc (x := j) (lv' := [(2, .int (zI (j + 1))), (1, .int (zI (acc + ((mrec τ j) 3 + (mrec τ j) 4)))), (0, .ref (a 0))]) hx hb dX2_allTurns_24 hl (k := 1) rfl (by decide) rfl (fun ls hl => ?_)
        refine lv_goto (tgt := 4) hx hb dX2_allTurns_27 (by decide) ?_
        exact ih4 (j + 1) (acc + ((mrec τ j) 3 + (mrec τ j) 4)) (n0 + 1) (by omega) (by omega) (by omega) (by rw [ha, hn]; rfl) ls (lv_sub hl [0, 1, 2] rfl)
  exact lp4 ((τ 7 - (0 : Int)).toNat + 1) 0 0 0 (Nat.lt_succ_self _) (by omega) (by omega) (by rfl) ls (lv_sub hl [0, 1, 2] rfl)
set_option maxHeartbeats 4000000 in
set_option maxRecDepth 100000 in
theorem c_X2_allBilled (l : Launch) (D : va_G) (cs : Nat → ClassId) (a : Int → Nat) (τ : Int → Int) (h7 : 0 ≤ τ 7 ∧ τ 7 ≤ 7) : kR D cs l yX2_allBilled wsX2_allBilled ({ frames := 0, cells := 0, slots := 0, locals := 0 } : Room) [.ref (a 0)] (fun H => hAt D cs a τ H) (some (.int (zI (blC τ (τ 7).toNat)))) := by
  refine Met.ofW (cc := cX2_allBilled) (maxL := 3) (ret := (some .int)) (by decide) rfl ?_
  intro p e s m args below meth c s₁ B hml hv
  obtain ⟨rfl, hK, hH⟩ := hv
  have hx := B.exec
  have hb := B.bytes
  have hr := B.returns
  have hts := atoms_spec (ws := wsX2_allBilled) B.pre
  have hown : s.vm.findClass RX2 = some m.cls := findClass_of_methodNamed B.named
  have hlocks := B.notSynchronized
  have S : CallFix p m c cX2_allBilled 3 s (([.ref (a 0)] : List Value)).toArray wsX2_allBilled RX2 := ⟨hx, hb, hml, hown, hts⟩
  have hin2 : ∀ w ∈ wsX20, w ∈ wsX2_allBilled := by decide +kernel
  have hin4 : ∀ w ∈ wsX40, w ∈ wsX2_allBilled := by decide +kernel
  have hl := lv_entry ([.ref (a 0)]) (n := 3) (Nat.le_of_ble_eq_true rfl)
  rw [lg_entry_eq]
  generalize (lg_sl ([.ref (a 0)]) ++ List.replicate (3 - (lg_sl ([.ref (a 0)])).length) Slot.unset).toArray = ls at hl ⊢
  have hl : lv_has ls 3 [(0, .ref (a 0))] := hl
  refine x_iconst hx hb dX2_allBilled_0 ?_
  refine lv_istore_n (lv' := [(1, .int (zI 0)), (0, .ref (a 0))]) hx hb dX2_allBilled_1 rfl hl (by decide) rfl (fun ls hl => ?_)
  refine x_iconst hx hb dX2_allBilled_2 ?_
  refine lv_istore_n (lv' := [(2, .int (zI 0)), (1, .int (zI 0)), (0, .ref (a 0))]) hx hb dX2_allBilled_3 rfl hl (by decide) rfl (fun ls hl => ?_)
  have lp4 : ∀ (n : Nat) (j : Int) (acc : Int) (n0 : Nat), (τ 7 - j).toNat < n → (0 ≤ j ∧ j ≤ τ 7) → (j = (n0 : Int)) → (acc = blC τ n0) → ∀ (ls : Array Slot), lv_has ls 3 [(2, .int (zI j)), (1, .int (zI acc)), (0, .ref (a 0))] → W p l e (headSpec wsX2_allBilled ({ frames := 0, cells := 0, slots := 0, locals := 0 } : Room)).room s m ([.ref (a 0)] : List Value).toArray below meth c s.heap [] 0 0 (MQ below (kS (some (.int (zI (blC τ (τ 7).toNat))))) ([.ref (a 0)] : List Value).toArray s 0 0 (fun _ => False)) (F0 m 4 ls []) := by
    intro n
    induction n with
    | zero => intro j acc n0 hms; exact absurd hms (Nat.not_lt_zero _)
    | succ n ih =>
      intro j acc n0 hms hj hn ha ls hl
      have ih4 := ih
      clear ih
      refine lv_iload_n hx hb dX2_allBilled_4 rfl (lv_at hl 0 rfl) ?_
      refine lv_aload_n hx hb dX2_allBilled_5 rfl (lv_at hl 2 rfl) ?_
      refine h_g_meterCount S hin2 hK (hAt_hs hH) (hts (.fieldLink RX2 32 "EnergyDiscs$House" "meterCount" "I") (by decide +kernel)) dX2_allBilled_6 ?_
      refine x_icmp_ge (tgt := 30) hx hb dX2_allBilled_9 (by decide) (by omega) (by omega) (fun c_9 => ?_) (fun c_9 => ?_)
      · refine lv_iload_n hx hb dX2_allBilled_30 rfl (lv_at hl 1 rfl) ?_
        exact x_iretR hx hb hr hlocks (by rw [ha]; congr 1; omega) rfl dX2_allBilled_31
      · refine lv_iload_n hx hb dX2_allBilled_12 rfl (lv_at hl 1 rfl) ?_
        refine lv_aload_n hx hb dX2_allBilled_13 rfl (lv_at hl 2 rfl) ?_
        refine h_g_meters S hin2 hK (hAt_hs hH) (hts (.fieldLink RX2 17 "EnergyDiscs$House" "meters" "[LEnergyDiscs$Meter;") (by decide +kernel)) dX2_allBilled_14 ?_
        refine lv_iload_n hx hb dX2_allBilled_17 rfl (lv_at hl 0 rfl) ?_
        refine h_l_meters S hK hH (by omega) dX2_allBilled_18 ?_
        refine hm_g_billed S hin4 hK hH (el := j) (by omega) (hts (.fieldLink RX2 150 "EnergyDiscs$Meter" "billed" "I") (by decide +kernel)) dX2_allBilled_19 ?_
        refine x_iadd hx hb dX2_allBilled_22 ?_
        refine lv_istore_n (lv' := [(1, .int (zI (acc + (τ (11 + 13 * j + 8))))), (2, .int (zI j)), (0, .ref (a 0))]) hx hb dX2_allBilled_23 rfl hl (by decide) rfl (fun ls hl => ?_)
        refine x_iinc (x := j) (lv' := [(2, .int (zI (j + 1))), (1, .int (zI (acc + (τ (11 + 13 * j + 8))))), (0, .ref (a 0))]) hx hb dX2_allBilled_24 hl (k := 1) rfl (by decide) rfl (fun ls hl => ?_)
        refine lv_goto (tgt := 4) hx hb dX2_allBilled_27 (by decide) ?_
        exact ih4 (j + 1) (acc + (τ (11 + 13 * j + 8))) (n0 + 1) (by omega) (by omega) (by omega) (by rw [ha, hn]; rfl) ls (lv_sub hl [0, 1, 2] rfl)
  exact lp4 ((τ 7 - (0 : Int)).toNat + 1) 0 0 0 (Nat.lt_succ_self _) (by omega) (by omega) (by rfl) ls (lv_sub hl [0, 1, 2] rfl)
set_option maxHeartbeats 4000000 in
set_option maxRecDepth 100000 in
theorem c_X2_mostMissing (l : Launch) (D : va_G) (cs : Nat → ClassId) (a : Int → Nat) (τ : Int → Int) (h7 : 0 ≤ τ 7 ∧ τ 7 ≤ 7) (hu : ∀ j : Int, 0 ≤ j → j < τ 7 → uOK (mrec τ j)) : kR D cs l yX2_mostMissing wsX2_mostMissing ({ frames := 2, cells := 0, slots := 0, locals := 40 } : Room) [.ref (a 0)] (fun H => hAt D cs a τ H) (some (.int (zI (if τ 7 = 0 then -6 else mmC τ (τ 7 - 1).toNat)))) := by
  refine Met.ofW (cc := cX2_mostMissing) (maxL := 3) (ret := (some .int)) (by decide) rfl ?_
  intro p e s m args below meth c s₁ B hml hv
  obtain ⟨rfl, hK, hH⟩ := hv
  have hx := B.exec
  have hb := B.bytes
  have hr := B.returns
  have hts := atoms_spec (ws := wsX2_mostMissing) B.pre
  have hown : s.vm.findClass RX2 = some m.cls := findClass_of_methodNamed B.named
  have hlocks := B.notSynchronized
  have S : CallFix p m c cX2_mostMissing 3 s (([.ref (a 0)] : List Value)).toArray wsX2_mostMissing RX2 := ⟨hx, hb, hml, hown, hts⟩
  have hin2 : ∀ w ∈ wsX20, w ∈ wsX2_mostMissing := by decide +kernel
  have hl := lv_entry ([.ref (a 0)]) (n := 3) (Nat.le_of_ble_eq_true rfl)
  rw [lg_entry_eq]
  generalize (lg_sl ([.ref (a 0)]) ++ List.replicate (3 - (lg_sl ([.ref (a 0)])).length) Slot.unset).toArray = ls at hl ⊢
  have hl : lv_has ls 3 [(0, .ref (a 0))] := hl
  refine lv_aload_n hx hb dX2_mostMissing_0 rfl (lv_at hl 0 rfl) ?_
  refine h_g_meterCount S hin2 hK (hAt_hs hH) (hts (.fieldLink RX2 32 "EnergyDiscs$House" "meterCount" "I") (by decide +kernel)) dX2_mostMissing_1 ?_
  refine x_if_ne (tgt := 10) hx hb dX2_mostMissing_4 (by decide) (by omega) (fun c_4 => ?_) (fun c_4 => ?_)
  · refine x_iconst hx hb dX2_mostMissing_10 ?_
    refine lv_istore_n (lv' := [(1, .int (zI 0)), (0, .ref (a 0))]) hx hb dX2_mostMissing_11 rfl hl (by decide) rfl (fun ls hl => ?_)
    refine x_iconst hx hb dX2_mostMissing_12 ?_
    refine lv_istore_n (lv' := [(2, .int (zI 1)), (1, .int (zI 0)), (0, .ref (a 0))]) hx hb dX2_mostMissing_13 rfl hl (by decide) rfl (fun ls hl => ?_)
    have lp14 : ∀ (n : Nat) (j : Int) (b0 : Int) (n0 : Nat), (τ 7 - j).toNat < n → (1 ≤ j ∧ j ≤ τ 7) → (j = (n0 : Int) + 1) → (b0 = mmC τ n0) → (0 ≤ b0 ∧ b0 < j) → ∀ (ls : Array Slot), lv_has ls 3 [(2, .int (zI j)), (1, .int (zI b0)), (0, .ref (a 0))] → W p l e (headSpec wsX2_mostMissing ({ frames := 2, cells := 0, slots := 0, locals := 40 } : Room)).room s m ([.ref (a 0)] : List Value).toArray below meth c s.heap [] 0 0 (MQ below (kS (some (.int (zI (if τ 7 = 0 then -6 else mmC τ (τ 7 - 1).toNat))))) ([.ref (a 0)] : List Value).toArray s 0 0 (fun _ => False)) (F0 m 14 ls []) := by
      intro n
      induction n with
      | zero => intro j b0 n0 hms; exact absurd hms (Nat.not_lt_zero _)
      | succ n ih =>
        intro j b0 n0 hms hj hn ha hb0 ls hl
        have ih14 := ih
        clear ih
        refine lv_iload_n hx hb dX2_mostMissing_14 rfl (lv_at hl 0 rfl) ?_
        refine lv_aload_n hx hb dX2_mostMissing_15 rfl (lv_at hl 2 rfl) ?_
        refine h_g_meterCount S hin2 hK (hAt_hs hH) (hts (.fieldLink RX2 32 "EnergyDiscs$House" "meterCount" "I") (by decide +kernel)) dX2_mostMissing_16 ?_
        refine x_icmp_ge (tgt := 52) hx hb dX2_mostMissing_19 (by decide) (by omega) (by omega) (fun c_19 => ?_) (fun c_19 => ?_)
        · refine lv_iload_n hx hb dX2_mostMissing_52 rfl (lv_at hl 1 rfl) ?_
          exact x_iretR hx hb hr hlocks (by rw [if_neg (by omega), ha, show (τ 7 - 1).toNat = n0 by omega]) rfl dX2_mostMissing_53
        · have hu1 := hu j (by omega) (by omega)
          have hu2 := hu b0 (by omega) (by omega)
          have hr1 := msM_rng hu1
          have hr2 := msM_rng hu2
          refine lv_aload_n hx hb dX2_mostMissing_22 rfl (lv_at hl 2 rfl) ?_
          refine h_g_meters S hin2 hK (hAt_hs hH) (hts (.fieldLink RX2 17 "EnergyDiscs$House" "meters" "[LEnergyDiscs$Meter;") (by decide +kernel)) dX2_mostMissing_23 ?_
          refine lv_iload_n hx hb dX2_mostMissing_26 rfl (lv_at hl 0 rfl) ?_
          refine h_l_meters S hK hH (by omega) dX2_mostMissing_27 ?_
          refine x_callVR (As := []) (rest := []) S hK (c_X4_missed l D cs (a (4 + j)) (mrec τ j) (by exact hu1.1) (by exact hu1.2.1)) (cwV 0 hts gX2_mostMissing_X4_missed rfl rfl rfl (by decide +kernel) ⟨(Nat.le_of_ble_eq_true rfl), (Nat.le_of_ble_eq_true rfl)⟩) (x_rc hK (hAt_m hH (e := j) (by omega)) rfl) (hAt_m hH (e := j) (by omega)) rfl hl.1 (Nat.le_of_ble_eq_true rfl) dX2_mostMissing_28 ⟨Nat.zero_le _, Nat.zero_le _⟩ ?_
          refine lv_aload_n hx hb dX2_mostMissing_31 rfl (lv_at hl 2 rfl) ?_
          refine h_g_meters S hin2 hK (hAt_hs hH) (hts (.fieldLink RX2 17 "EnergyDiscs$House" "meters" "[LEnergyDiscs$Meter;") (by decide +kernel)) dX2_mostMissing_32 ?_
          refine lv_iload_n hx hb dX2_mostMissing_35 rfl (lv_at hl 1 rfl) ?_
          refine h_l_meters S hK hH (by omega) dX2_mostMissing_36 ?_
          refine x_callVR (As := []) (rest := [.long (zL (msM (mrec τ j)))]) S hK (c_X4_missed l D cs (a (4 + b0)) (mrec τ b0) (by exact hu2.1) (by exact hu2.2.1)) (cwV 0 hts gX2_mostMissing_X4_missed rfl rfl rfl (by decide +kernel) ⟨(Nat.le_of_ble_eq_true rfl), (Nat.le_of_ble_eq_true rfl)⟩) (x_rc hK (hAt_m hH (e := b0) (by omega)) rfl) (hAt_m hH (e := b0) (by omega)) rfl hl.1 (Nat.le_of_ble_eq_true rfl) dX2_mostMissing_37 ⟨Nat.zero_le _, Nat.zero_le _⟩ ?_
          refine x_lcmp_le (tgt := 46) hx hb dX2_mostMissing_40 dX2_mostMissing_41 (by decide) (by omega) (by omega) (fun c_40 => ?_) (fun c_40 => ?_)
          · refine x_iinc (x := j) (lv' := [(2, .int (zI (j + 1))), (1, .int (zI b0)), (0, .ref (a 0))]) hx hb dX2_mostMissing_46 hl (k := 0) rfl (by decide) rfl (fun ls hl => ?_)
            refine lv_goto (tgt := 14) hx hb dX2_mostMissing_49 (by decide) ?_
            exact ih14 (j + 1) b0 (n0 + 1) (by omega) (by omega) (by omega) (by show _ = if msM (mrec τ (mmC τ n0)) < msM (mrec τ ((n0 : Int) + 1)) then (n0 : Int) + 1 else mmC τ n0; rw [← ha, ← hn]; first | rw [if_pos (by omega)] | rw [if_neg (by omega)]) (by omega) ls (lv_sub hl [0, 1, 2] rfl)
          · refine lv_iload_n hx hb dX2_mostMissing_44 rfl (lv_at hl 0 rfl) ?_
            refine lv_istore_n (lv' := [(1, .int (zI j)), (2, .int (zI j)), (0, .ref (a 0))]) hx hb dX2_mostMissing_45 rfl hl (by decide) rfl (fun ls hl => ?_)
            refine x_iinc (x := j) (lv' := [(2, .int (zI (j + 1))), (1, .int (zI j)), (0, .ref (a 0))]) hx hb dX2_mostMissing_46 hl (k := 1) rfl (by decide) rfl (fun ls hl => ?_)
            refine lv_goto (tgt := 14) hx hb dX2_mostMissing_49 (by decide) ?_
            exact ih14 (j + 1) j (n0 + 1) (by omega) (by omega) (by omega) (by show _ = if msM (mrec τ (mmC τ n0)) < msM (mrec τ ((n0 : Int) + 1)) then (n0 : Int) + 1 else mmC τ n0; rw [← ha, ← hn]; first | rw [if_pos (by omega)] | rw [if_neg (by omega)]) (by omega) ls (lv_sub hl [0, 1, 2] rfl)
    exact lp14 ((τ 7 - (1 : Int)).toNat + 1) 1 0 0 (Nat.lt_succ_self _) (by omega) (by omega) (by rfl) (by omega) ls (lv_sub hl [0, 1, 2] rfl)
  · refine x_bipush hx hb dX2_mostMissing_7 (by decide +kernel) ?_
    exact x_iretR hx hb hr hlocks (by rw [if_pos (by omega)]) rfl dX2_mostMissing_9
set_option maxHeartbeats 4000000 in
set_option maxRecDepth 100000 in
theorem c_X2_turnsBehind (l : Launch) (D : va_G) (cs : Nat → ClassId) (a : Int → Nat) (τ : Int → Int) (k : Int) (hL : lOK τ) (hk : 0 ≤ k ∧ k < τ 7) : kR D cs l yX2_turnsBehind wsX2_turnsBehind ({ frames := 1, cells := 0, slots := 0, locals := 20 } : Room) [.ref (a 0), .int (zI k)] (fun H => hAt D cs a τ H) (some (.int (zI (tbC τ k (τ 7 - k - 1).toNat - trn τ k)))) := by
  refine Met.ofW (cc := cX2_turnsBehind) (maxL := 4) (ret := (some .int)) (by decide) rfl ?_
  intro p e s m args below meth c s₁ B hml hv
  obtain ⟨rfl, hK, hH⟩ := hv
  have hx := B.exec
  have hb := B.bytes
  have hr := B.returns
  have hts := atoms_spec (ws := wsX2_turnsBehind) B.pre
  have hown : s.vm.findClass RX2 = some m.cls := findClass_of_methodNamed B.named
  have hlocks := B.notSynchronized
  have S : CallFix p m c cX2_turnsBehind 4 s (([.ref (a 0), .int (zI k)] : List Value)).toArray wsX2_turnsBehind RX2 := ⟨hx, hb, hml, hown, hts⟩
  have hin2 : ∀ w ∈ wsX20, w ∈ wsX2_turnsBehind := by decide +kernel
  have hin4 : ∀ w ∈ wsX40, w ∈ wsX2_turnsBehind := by decide +kernel
  have hl := lv_entry ([.ref (a 0), .int (zI k)]) (n := 4) (Nat.le_of_ble_eq_true rfl)
  rw [lg_entry_eq]
  generalize (lg_sl ([.ref (a 0), .int (zI k)]) ++ List.replicate (4 - (lg_sl ([.ref (a 0), .int (zI k)])).length) Slot.unset).toArray = ls at hl ⊢
  have hl : lv_has ls 4 [(0, .ref (a 0)), (1, .int (zI k))] := hl
  have h7 := hL.1
  refine x_iconst hx hb dX2_turnsBehind_0 ?_
  refine lv_istore_n (lv' := [(2, .int (zI 0)), (0, .ref (a 0)), (1, .int (zI k))]) hx hb dX2_turnsBehind_1 rfl hl (by decide) rfl (fun ls hl => ?_)
  refine lv_iload_n hx hb dX2_turnsBehind_2 rfl (lv_at hl 2 rfl) ?_
  refine x_iconst hx hb dX2_turnsBehind_3 ?_
  refine x_iadd hx hb dX2_turnsBehind_4 ?_
  refine lv_istore_n (lv' := [(3, .int (zI (k + 1))), (2, .int (zI 0)), (0, .ref (a 0)), (1, .int (zI k))]) hx hb dX2_turnsBehind_5 rfl hl (by decide) rfl (fun ls hl => ?_)
  have lp6 : ∀ (n : Nat) (j : Int) (acc : Int) (n0 : Nat), (τ 7 - j).toNat < n → (k + 1 ≤ j ∧ j ≤ τ 7) → (j = k + 1 + (n0 : Int)) → (acc = tbC τ k n0) → ∀ (ls : Array Slot), lv_has ls 4 [(3, .int (zI j)), (2, .int (zI acc)), (0, .ref (a 0)), (1, .int (zI k))] → W p l e (headSpec wsX2_turnsBehind ({ frames := 1, cells := 0, slots := 0, locals := 20 } : Room)).room s m ([.ref (a 0), .int (zI k)] : List Value).toArray below meth c s.heap [] 0 0 (MQ below (kS (some (.int (zI (tbC τ k (τ 7 - k - 1).toNat - trn τ k))))) ([.ref (a 0), .int (zI k)] : List Value).toArray s 0 0 (fun _ => False)) (F0 m 6 ls []) := by
    intro n
    induction n with
    | zero => intro j acc n0 hms; exact absurd hms (Nat.not_lt_zero _)
    | succ n ih =>
      intro j acc n0 hms hj hn ha ls hl
      have ih6 := ih
      clear ih
      refine lv_iload_n hx hb dX2_turnsBehind_6 rfl (lv_at hl 0 rfl) ?_
      refine lv_aload_n hx hb dX2_turnsBehind_7 rfl (lv_at hl 2 rfl) ?_
      refine h_g_meterCount S hin2 hK (hAt_hs hH) (hts (.fieldLink RX2 32 "EnergyDiscs$House" "meterCount" "I") (by decide +kernel)) dX2_turnsBehind_8 ?_
      refine x_icmp_ge (tgt := 45) hx hb dX2_turnsBehind_11 (by decide) (by omega) (by omega) (fun c_11 => ?_) (fun c_11 => ?_)
      · refine lv_iload_n hx hb dX2_turnsBehind_45 rfl (lv_at hl 1 rfl) ?_
        refine lv_aload_n hx hb dX2_turnsBehind_46 rfl (lv_at hl 2 rfl) ?_
        refine h_g_meters S hin2 hK (hAt_hs hH) (hts (.fieldLink RX2 17 "EnergyDiscs$House" "meters" "[LEnergyDiscs$Meter;") (by decide +kernel)) dX2_turnsBehind_47 ?_
        refine lv_iload_n hx hb dX2_turnsBehind_50 rfl (lv_at hl 3 rfl) ?_
        refine h_l_meters S hK hH (by omega) dX2_turnsBehind_51 ?_
        refine x_callVR (As := []) (rest := [.int (zI acc)]) S hK (c_X4_turns l D cs (a (4 + k)) (mrec τ k) ) (cwV 0 hts gX2_turnsBehind_X4_turns rfl rfl rfl (by decide +kernel) ⟨(Nat.le_of_ble_eq_true rfl), (Nat.le_of_ble_eq_true rfl)⟩) (x_rc hK (hAt_m hH (e := k) (by omega)) rfl) (hAt_m hH (e := k) (by omega)) rfl hl.1 (Nat.le_of_ble_eq_true rfl) dX2_turnsBehind_52 ⟨Nat.zero_le _, Nat.zero_le _⟩ ?_
        refine x_isub hx hb dX2_turnsBehind_55 ?_
        exact x_iretR hx hb hr hlocks (by rw [ha, show (τ 7 - k - 1).toNat = n0 by omega]; rfl) rfl dX2_turnsBehind_56
      · have ht := hL.2.2.1 j (by omega) (by omega)
        have ht : 0 ≤ τ (11 + 13 * j + 0) ∧ τ (11 + 13 * j + 0) < j := by rw [Int.add_zero]; exact ht
        refine lv_aload_n hx hb dX2_turnsBehind_14 rfl (lv_at hl 2 rfl) ?_
        refine h_g_meters S hin2 hK (hAt_hs hH) (hts (.fieldLink RX2 17 "EnergyDiscs$House" "meters" "[LEnergyDiscs$Meter;") (by decide +kernel)) dX2_turnsBehind_15 ?_
        refine lv_iload_n hx hb dX2_turnsBehind_18 rfl (lv_at hl 0 rfl) ?_
        refine h_l_meters S hK hH (by omega) dX2_turnsBehind_19 ?_
        refine hm_g_through S hin4 hK hH (el := j) (by omega) (hts (.fieldLink RX2 144 "EnergyDiscs$Meter" "through" "I") (by decide +kernel)) dX2_turnsBehind_20 ?_
        refine lv_iload_n hx hb dX2_turnsBehind_23 rfl (lv_at hl 3 rfl) ?_
        refine x_icmp_ne (tgt := 39) hx hb dX2_turnsBehind_24 (by decide) (by omega) (by omega) (fun c_24 => ?_) (fun c_24 => ?_)
        · refine x_iinc (x := j) (lv' := [(3, .int (zI (j + 1))), (2, .int (zI acc)), (0, .ref (a 0)), (1, .int (zI k))]) hx hb dX2_turnsBehind_39 hl (k := 0) rfl (by decide) rfl (fun ls hl => ?_)
          refine lv_goto (tgt := 6) hx hb dX2_turnsBehind_42 (by decide) ?_
          exact ih6 (j + 1) acc (n0 + 1) (by omega) (by omega) (by omega) (by rw [ha]; show _ = tbC τ k n0 + (if τ (11 + 13 * (k + 1 + (n0 : Int)) + 0) = k then trn τ (k + 1 + (n0 : Int)) else 0); rw [← hn]; first | (rw [if_pos (by exact c_24)]; rfl) | (rw [if_neg (by exact c_24), Int.add_zero])) ls (lv_sub hl [0, 1, 2, 3] rfl)
        · refine lv_iload_n hx hb dX2_turnsBehind_27 rfl (lv_at hl 1 rfl) ?_
          refine lv_aload_n hx hb dX2_turnsBehind_28 rfl (lv_at hl 2 rfl) ?_
          refine h_g_meters S hin2 hK (hAt_hs hH) (hts (.fieldLink RX2 17 "EnergyDiscs$House" "meters" "[LEnergyDiscs$Meter;") (by decide +kernel)) dX2_turnsBehind_29 ?_
          refine lv_iload_n hx hb dX2_turnsBehind_32 rfl (lv_at hl 0 rfl) ?_
          refine h_l_meters S hK hH (by omega) dX2_turnsBehind_33 ?_
          refine x_callVR (As := []) (rest := [.int (zI acc)]) S hK (c_X4_turns l D cs (a (4 + j)) (mrec τ j) ) (cwV 0 hts gX2_turnsBehind_X4_turns rfl rfl rfl (by decide +kernel) ⟨(Nat.le_of_ble_eq_true rfl), (Nat.le_of_ble_eq_true rfl)⟩) (x_rc hK (hAt_m hH (e := j) (by omega)) rfl) (hAt_m hH (e := j) (by omega)) rfl hl.1 (Nat.le_of_ble_eq_true rfl) dX2_turnsBehind_34 ⟨Nat.zero_le _, Nat.zero_le _⟩ ?_
          refine x_iadd hx hb dX2_turnsBehind_37 ?_
          refine lv_istore_n (lv' := [(2, .int (zI (acc + ((mrec τ j) 3 + (mrec τ j) 4)))), (3, .int (zI j)), (0, .ref (a 0)), (1, .int (zI k))]) hx hb dX2_turnsBehind_38 rfl hl (by decide) rfl (fun ls hl => ?_)
          refine x_iinc (x := j) (lv' := [(3, .int (zI (j + 1))), (2, .int (zI (acc + ((mrec τ j) 3 + (mrec τ j) 4)))), (0, .ref (a 0)), (1, .int (zI k))]) hx hb dX2_turnsBehind_39 hl (k := 1) rfl (by decide) rfl (fun ls hl => ?_)
          refine lv_goto (tgt := 6) hx hb dX2_turnsBehind_42 (by decide) ?_
          exact ih6 (j + 1) (acc + ((mrec τ j) 3 + (mrec τ j) 4)) (n0 + 1) (by omega) (by omega) (by omega) (by rw [ha]; show _ = tbC τ k n0 + (if τ (11 + 13 * (k + 1 + (n0 : Int)) + 0) = k then trn τ (k + 1 + (n0 : Int)) else 0); rw [← hn]; first | (rw [if_pos (by exact c_24)]; rfl) | (rw [if_neg (by exact c_24), Int.add_zero])) ls (lv_sub hl [0, 1, 2, 3] rfl)
  exact lp6 ((τ 7 - (k + 1)).toNat + 1) (k + 1) 0 0 (Nat.lt_succ_self _) (by omega) (by omega) (by rfl) ls (lv_sub hl [0, 1, 2, 3] rfl)
