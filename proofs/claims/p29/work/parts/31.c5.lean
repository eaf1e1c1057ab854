set_option maxHeartbeats 4000000 in
set_option maxRecDepth 100000 in
theorem c_X5_clear (l : Launch) (D : va_G) (cs : Nat → ClassId) (a : Int → Nat) (pd : Int → Int) (ln : Int) (hI : pI2 a) : kM D cs l yX5_clear wsX5_clear ({ frames := 0, cells := 0, slots := 0, locals := 0 } : Room) [.ref (a 0)] (fun H => pAt D cs a pd ln H) none (fun H => pAt D cs a pd 0 H) (pC2 a) := by
  refine Met.ofW (cc := cX5_clear) (maxL := 1) (ret := none) (by decide) rfl ?_
  intro p e s m args below meth c s₁ B hml hv
  obtain ⟨rfl, hK, hP⟩ := hv
  have hx := B.exec
  have hb := B.bytes
  have hr := B.returns
  have hts := atoms_spec (ws := wsX5_clear) B.pre
  have hown : s.vm.findClass RX5 = some m.cls := findClass_of_methodNamed B.named
  have hlocks := B.notSynchronized
  have S : CallFix p m c cX5_clear 1 s (([.ref (a 0)] : List Value)).toArray wsX5_clear RX5 := ⟨hx, hb, hml, hown, hts⟩
  have hin5 : ∀ w ∈ wsX50, w ∈ wsX5_clear := by decide +kernel
  have hS : va_S (pC2 a) s.heap s.heap [] := va_S.rf
  have hl := lv_entry ([.ref (a 0)]) (n := 1) (Nat.le_of_ble_eq_true rfl)
  rw [lg_entry_eq]
  generalize (lg_sl ([.ref (a 0)]) ++ List.replicate (1 - (lg_sl ([.ref (a 0)])).length) Slot.unset).toArray = ls at hl ⊢
  have hl : lv_has ls 1 [(0, .ref (a 0))] := hl
  refine lv_aload_n hx hb dX5_clear_0 rfl (lv_at hl 0 rfl) ?_
  refine x_iconst hx hb dX5_clear_1 ?_
  refine p_p_length S hin5 hK hP hI hS (bC_of (by decide) (by decide)) (hts (.fieldLink RX5 15 "EnergyDiscs$Pad" "length" "I") (by decide +kernel)) dX5_clear_2 (fun H locs hP hF hS => ?_)
  exact x_vretM hx hb hr hlocks hP hS dX5_clear_5
set_option maxHeartbeats 4000000 in
set_option maxRecDepth 100000 in
theorem c_X5_signAt (l : Launch) (D : va_G) (cs : Nat → ClassId) (a : Int → Nat) (pd : Int → Int) (ln : Int) (k : Int) (hk : -2147483648 ≤ k ∧ k < 2147483648) (hl0 : 0 ≤ ln ∧ ln ≤ 80) : kR D cs l yX5_signAt wsX5_signAt ({ frames := 0, cells := 0, slots := 0, locals := 0 } : Room) [.ref (a 0), .int (zI k)] (fun H => pAt D cs a pd ln H) (some (.int (zI (sgA pd ln k)))) := by
  refine Met.ofW (cc := cX5_signAt) (maxL := 2) (ret := (some .int)) (by decide) rfl ?_
  intro p e s m args below meth c s₁ B hml hv
  obtain ⟨rfl, hK, hP⟩ := hv
  have hx := B.exec
  have hb := B.bytes
  have hr := B.returns
  have hts := atoms_spec (ws := wsX5_signAt) B.pre
  have hown : s.vm.findClass RX5 = some m.cls := findClass_of_methodNamed B.named
  have hlocks := B.notSynchronized
  have S : CallFix p m c cX5_signAt 2 s (([.ref (a 0), .int (zI k)] : List Value)).toArray wsX5_signAt RX5 := ⟨hx, hb, hml, hown, hts⟩
  have hin5 : ∀ w ∈ wsX50, w ∈ wsX5_signAt := by decide +kernel
  have hl := lv_entry ([.ref (a 0), .int (zI k)]) (n := 2) (Nat.le_of_ble_eq_true rfl)
  rw [lg_entry_eq]
  generalize (lg_sl ([.ref (a 0), .int (zI k)]) ++ List.replicate (2 - (lg_sl ([.ref (a 0), .int (zI k)])).length) Slot.unset).toArray = ls at hl ⊢
  have hl : lv_has ls 2 [(0, .ref (a 0)), (1, .int (zI k))] := hl
  refine lv_iload_n hx hb dX5_signAt_0 rfl (lv_at hl 1 rfl) ?_
  refine x_if_lt (tgt := 21) hx hb dX5_signAt_1 (by decide) (by omega) (fun c_1 => ?_) (fun c_1 => ?_)
  · refine x_iconst hx hb dX5_signAt_21 ?_
    exact x_iretR hx hb hr hlocks (by unfold sgA; first | (rw [if_pos (by omega)]) | (rw [if_neg (by omega)])) rfl dX5_signAt_22
  · refine lv_iload_n hx hb dX5_signAt_4 rfl (lv_at hl 1 rfl) ?_
    refine lv_aload_n hx hb dX5_signAt_5 rfl (lv_at hl 0 rfl) ?_
    refine p_g_length S hin5 hK hP (hts (.fieldLink RX5 15 "EnergyDiscs$Pad" "length" "I") (by decide +kernel)) dX5_signAt_6 ?_
    refine x_icmp_ge (tgt := 21) hx hb dX5_signAt_9 (by decide) (by omega) (by omega) (fun c_9 => ?_) (fun c_9 => ?_)
    · refine x_iconst hx hb dX5_signAt_21 ?_
      exact x_iretR hx hb hr hlocks (by unfold sgA; first | (rw [if_pos (by omega)]) | (rw [if_neg (by omega)])) rfl dX5_signAt_22
    · refine lv_aload_n hx hb dX5_signAt_12 rfl (lv_at hl 0 rfl) ?_
      refine p_g_signs S hin5 hK hP (hts (.fieldLink RX5 9 "EnergyDiscs$Pad" "signs" "[C") (by decide +kernel)) dX5_signAt_13 ?_
      refine lv_iload_n hx hb dX5_signAt_16 rfl (lv_at hl 1 rfl) ?_
      refine p_l S hK hP (by omega) dX5_signAt_17 ?_
      refine lv_goto (tgt := 22) hx hb dX5_signAt_18 (by decide) ?_
      exact x_iretR hx hb hr hlocks (by unfold sgA; first | (rw [if_pos (by omega)]) | (rw [if_neg (by omega)])) rfl dX5_signAt_22
set_option maxHeartbeats 4000000 in
set_option maxRecDepth 100000 in
theorem c_X5_append (l : Launch) (D : va_G) (cs : Nat → ClassId) (a : Int → Nat) (pd : Int → Int) (ln : Int) (c0 : Int) (hc : 0 ≤ c0 ∧ c0 < 65536) (hl0 : 0 ≤ ln ∧ ln < 80) (hI : pI2 a) : kM D cs l yX5_append wsX5_append ({ frames := 0, cells := 0, slots := 0, locals := 0 } : Room) [.ref (a 0), .int (zI c0)] (fun H => pAt D cs a pd ln H) none (fun H => pAt D cs a (up pd ln c0) (ln + 1) H) (pC2 a) := by
  refine Met.ofW (cc := cX5_append) (maxL := 2) (ret := none) (by decide) rfl ?_
  intro p e s m args below meth c s₁ B hml hv
  obtain ⟨rfl, hK, hP⟩ := hv
  have hx := B.exec
  have hb := B.bytes
  have hr := B.returns
  have hts := atoms_spec (ws := wsX5_append) B.pre
  have hown : s.vm.findClass RX5 = some m.cls := findClass_of_methodNamed B.named
  have hlocks := B.notSynchronized
  have S : CallFix p m c cX5_append 2 s (([.ref (a 0), .int (zI c0)] : List Value)).toArray wsX5_append RX5 := ⟨hx, hb, hml, hown, hts⟩
  have hin5 : ∀ w ∈ wsX50, w ∈ wsX5_append := by decide +kernel
  have hS : va_S (pC2 a) s.heap s.heap [] := va_S.rf
  have hl := lv_entry ([.ref (a 0), .int (zI c0)]) (n := 2) (Nat.le_of_ble_eq_true rfl)
  rw [lg_entry_eq]
  generalize (lg_sl ([.ref (a 0), .int (zI c0)]) ++ List.replicate (2 - (lg_sl ([.ref (a 0), .int (zI c0)])).length) Slot.unset).toArray = ls at hl ⊢
  have hl : lv_has ls 2 [(0, .ref (a 0)), (1, .int (zI c0))] := hl
  refine lv_aload_n hx hb dX5_append_0 rfl (lv_at hl 0 rfl) ?_
  refine p_g_length S hin5 hK hP (hts (.fieldLink RX5 15 "EnergyDiscs$Pad" "length" "I") (by decide +kernel)) dX5_append_1 ?_
  refine x_bipush hx hb dX5_append_4 (by decide +kernel) ?_
  refine x_icmp_ge (tgt := 29) hx hb dX5_append_6 (by decide) (by omega) (by omega) (fun c_6 => ?_) (fun c_6 => ?_)
  · exfalso; omega
  · refine lv_aload_n hx hb dX5_append_9 rfl (lv_at hl 0 rfl) ?_
    refine p_g_signs S hin5 hK hP (hts (.fieldLink RX5 9 "EnergyDiscs$Pad" "signs" "[C") (by decide +kernel)) dX5_append_10 ?_
    refine lv_aload_n hx hb dX5_append_13 rfl (lv_at hl 0 rfl) ?_
    refine p_g_length S hin5 hK hP (hts (.fieldLink RX5 15 "EnergyDiscs$Pad" "length" "I") (by decide +kernel)) dX5_append_14 ?_
    refine lv_iload_n hx hb dX5_append_17 rfl (lv_at hl 1 rfl) ?_
    refine p_s S hK hP hI hS (bC_of (by decide) (by decide)) (by omega) (by omega) dX5_append_18 (fun H locs hP hF hS => ?_)
    refine lv_aload_n hx hb dX5_append_19 rfl (lv_at hl 0 rfl) ?_
    refine lv_dup hx hb dX5_append_20 rfl ?_
    refine p_g_length S hin5 hK hP (hts (.fieldLink RX5 15 "EnergyDiscs$Pad" "length" "I") (by decide +kernel)) dX5_append_21 ?_
    refine x_iconst hx hb dX5_append_24 ?_
    refine x_iadd hx hb dX5_append_25 ?_
    refine p_p_length S hin5 hK hP hI hS (bC_of (by decide) (by decide)) (hts (.fieldLink RX5 15 "EnergyDiscs$Pad" "length" "I") (by decide +kernel)) dX5_append_26 (fun H locs hP hF hS => ?_)
    exact x_vretM hx hb hr hlocks hP hS dX5_append_29
set_option maxHeartbeats 4000000 in
set_option maxRecDepth 100000 in
theorem c_X5_appendNumber (l : Launch) (D : va_G) (cs : Nat → ClassId) (a : Int → Nat) (pd : Int → Int) (ln : Int) (v : Int) (hvv : 0 ≤ v ∧ v < 2147483648) (hl0 : 0 ≤ ln ∧ ln + (ndg v : Int) ≤ 80) (hI : pI2 a) : kM D cs l yX5_appendNumber wsX5_appendNumber ({ frames := 0, cells := 0, slots := 0, locals := 0 } : Room) [.ref (a 0), .int (zI v)] (fun H => pAt D cs a pd ln H) none (fun H => pAt D cs a (numW pd ln v) (ln + (ndg v : Int)) H) (pC2 a) := by
  refine Met.ofW (cc := cX5_appendNumber) (maxL := 5) (ret := none) (by decide) rfl ?_
  intro p e s m args below meth c s₁ B hml hv
  obtain ⟨rfl, hK, hP⟩ := hv
  have hx := B.exec
  have hb := B.bytes
  have hr := B.returns
  have hts := atoms_spec (ws := wsX5_appendNumber) B.pre
  have hown : s.vm.findClass RX5 = some m.cls := findClass_of_methodNamed B.named
  have hlocks := B.notSynchronized
  have S : CallFix p m c cX5_appendNumber 5 s (([.ref (a 0), .int (zI v)] : List Value)).toArray wsX5_appendNumber RX5 := ⟨hx, hb, hml, hown, hts⟩
  have hin5 : ∀ w ∈ wsX50, w ∈ wsX5_appendNumber := by decide +kernel
  have hS : va_S (pC2 a) s.heap s.heap [] := va_S.rf
  have hl := lv_entry ([.ref (a 0), .int (zI v)]) (n := 5) (Nat.le_of_ble_eq_true rfl)
  rw [lg_entry_eq]
  generalize (lg_sl ([.ref (a 0), .int (zI v)]) ++ List.replicate (5 - (lg_sl ([.ref (a 0), .int (zI v)])).length) Slot.unset).toArray = ls at hl ⊢
  have hl : lv_has ls 5 [(0, .ref (a 0)), (1, .int (zI v))] := hl
  have hnl := ndg_le v
  refine x_iconst hx hb dX5_appendNumber_0 ?_
  refine lv_istore_n (lv' := [(2, .int (zI 1)), (0, .ref (a 0)), (1, .int (zI v))]) hx hb dX5_appendNumber_1 rfl hl (by decide) rfl (fun ls hl => ?_)
  refine lv_iload_n hx hb dX5_appendNumber_2 rfl (lv_at hl 2 rfl) ?_
  refine x_bipush hx hb dX5_appendNumber_3 (by decide +kernel) ?_
  refine x_idiv hx hb (by omega) (by omega) dX5_appendNumber_5 ?_
  refine lv_istore_n (lv' := [(3, .int (zI (v / 10))), (2, .int (zI 1)), (0, .ref (a 0)), (1, .int (zI v))]) hx hb dX5_appendNumber_6 rfl hl (by decide) rfl (fun ls hl => ?_)
  have lp7 : ∀ (n : Nat) (r : Int) (d0 : Int) (m0 : Nat) (b : Int), r.toNat < n → (d0 = (m0 : Int) + 1) → (r = b / 10) → (0 ≤ b ∧ b ≤ v) → (b = v / 10 ^ m0) → (m0 ≤ 9 ∧ ndg v = m0 + dgs (9 - m0) b) → ∀ (H : Heap) (locs : List Loc), pAt D cs a pd ln H → va_S (pC2 a) s.heap H locs → ∀ (ls : Array Slot), lv_has ls 5 [(3, .int (zI r)), (2, .int (zI d0)), (0, .ref (a 0)), (1, .int (zI v))] → W p l e (headSpec wsX5_appendNumber ({ frames := 0, cells := 0, slots := 0, locals := 0 } : Room)).room s m ([.ref (a 0), .int (zI v)] : List Value).toArray below meth c H locs 0 0 (MQ below (kQ none (fun H => pAt D cs a (numW pd ln v) (ln + (ndg v : Int)) H) (pC2 a)) ([.ref (a 0), .int (zI v)] : List Value).toArray s 0 0 (pC2 a)) (F0 m 7 ls []) := by
    intro n
    induction n with
    | zero => intro r d0 m0 b hms; exact absurd hms (Nat.not_lt_zero _)
    | succ n ih =>
      intro r d0 m0 b hms i1 i2 i3 i5 i4 H locs hP hS ls hl
      have ih7 := ih
      clear ih
      refine lv_iload_n hx hb dX5_appendNumber_7 rfl (lv_at hl 0 rfl) ?_
      refine x_if_le (tgt := 22) hx hb dX5_appendNumber_8 (by decide) (by omega) (fun c_8 => ?_) (fun c_8 => ?_)
      · rw [show (d0 : Int) = (ndg v : Int) from by have hd1 := dgs_1 (9 - m0) b (by omega); omega] at hl
        refine lv_aload_n hx hb dX5_appendNumber_22 rfl (lv_at hl 2 rfl) ?_
        refine p_g_length S hin5 hK hP (hts (.fieldLink RX5 15 "EnergyDiscs$Pad" "length" "I") (by decide +kernel)) dX5_appendNumber_23 ?_
        refine lv_iload_n hx hb dX5_appendNumber_26 rfl (lv_at hl 1 rfl) ?_
        refine x_iadd hx hb dX5_appendNumber_27 ?_
        refine x_bipush hx hb dX5_appendNumber_28 (by decide +kernel) ?_
        refine x_icmp_le (tgt := 34) hx hb dX5_appendNumber_30 (by decide) (by omega) (by omega) (fun c_30 => ?_) (fun c_30 => ?_)
        · refine lv_iload_n hx hb dX5_appendNumber_34 rfl (lv_at hl 3 rfl) ?_
          refine lv_istore_n (lv' := [(3, .int (zI v)), (2, .int (zI ((ndg v : Int)))), (0, .ref (a 0)), (1, .int (zI v))]) hx hb dX5_appendNumber_35 rfl hl (by decide) rfl (fun ls hl => ?_)
          refine lv_aload_n hx hb dX5_appendNumber_36 rfl (lv_at hl 2 rfl) ?_
          refine p_g_length S hin5 hK hP (hts (.fieldLink RX5 15 "EnergyDiscs$Pad" "length" "I") (by decide +kernel)) dX5_appendNumber_37 ?_
          refine lv_iload_n hx hb dX5_appendNumber_40 rfl (lv_at hl 1 rfl) ?_
          refine x_iadd hx hb dX5_appendNumber_41 ?_
          refine x_iconst hx hb dX5_appendNumber_42 ?_
          refine x_isub hx hb dX5_appendNumber_43 ?_
          refine lv_istore (lv' := [(4, .int (zI ((ln + ((ndg v : Int))) - 1))), (3, .int (zI v)), (2, .int (zI ((ndg v : Int)))), (0, .ref (a 0)), (1, .int (zI v))]) hx hb dX5_appendNumber_44 hl (by decide) rfl (fun ls hl => ?_)
          have lp46 : ∀ (n : Nat) (j : Int) (r2 : Int) (p0 : Int → Int) (j0 : Nat), j0 < n → (j = ln + (j0 : Int) - 1) → (r2 = v / 10 ^ (ndg v - j0)) → (p0 = numK pd ln v j0) → (j0 ≤ ndg v) → (0 ≤ r2 ∧ r2 ≤ v) → ∀ (H : Heap) (locs : List Loc), pAt D cs a p0 ln H → va_S (pC2 a) s.heap H locs → ∀ (ls : Array Slot), lv_has ls 5 [(4, .int (zI j)), (3, .int (zI r2)), (2, .int (zI ((ndg v : Int)))), (0, .ref (a 0)), (1, .int (zI v))] → W p l e (headSpec wsX5_appendNumber ({ frames := 0, cells := 0, slots := 0, locals := 0 } : Room)).room s m ([.ref (a 0), .int (zI v)] : List Value).toArray below meth c H locs 0 0 (MQ below (kQ none (fun H => pAt D cs a (numW pd ln v) (ln + (ndg v : Int)) H) (pC2 a)) ([.ref (a 0), .int (zI v)] : List Value).toArray s 0 0 (pC2 a)) (F0 m 46 ls []) := by
            intro n
            induction n with
            | zero => intro j r2 p0 j0 hms; exact absurd hms (Nat.not_lt_zero _)
            | succ n ih =>
              intro j r2 p0 j0 hms u1 u2 u3 u4 u5 H locs hP hS ls hl
              have hz : j0 = 0 ∨ ∃ g, j0 = g + 1 := by cases j0 with | zero => exact Or.inl rfl | succ g => exact Or.inr ⟨g, rfl⟩
              have ih46 := ih
              clear ih
              refine lv_iload hx hb dX5_appendNumber_46 (lv_at hl 0 rfl) ?_
              refine lv_aload_n hx hb dX5_appendNumber_48 rfl (lv_at hl 3 rfl) ?_
              refine p_g_length S hin5 hK hP (hts (.fieldLink RX5 15 "EnergyDiscs$Pad" "length" "I") (by decide +kernel)) dX5_appendNumber_49 ?_
              refine x_icmp_lt (tgt := 81) hx hb dX5_appendNumber_52 (by decide) (by omega) (by omega) (fun c_52 => ?_) (fun c_52 => ?_)
              · refine lv_aload_n hx hb dX5_appendNumber_81 rfl (lv_at hl 3 rfl) ?_
                refine lv_dup hx hb dX5_appendNumber_82 rfl ?_
                refine p_g_length S hin5 hK hP (hts (.fieldLink RX5 15 "EnergyDiscs$Pad" "length" "I") (by decide +kernel)) dX5_appendNumber_83 ?_
                refine lv_iload_n hx hb dX5_appendNumber_86 rfl (lv_at hl 2 rfl) ?_
                refine x_iadd hx hb dX5_appendNumber_87 ?_
                refine p_p_length S hin5 hK hP hI hS (bC_of (by decide) (by decide)) (hts (.fieldLink RX5 15 "EnergyDiscs$Pad" "length" "I") (by decide +kernel)) dX5_appendNumber_88 (fun H locs hP hF hS => ?_)
                exact x_vretM hx hb hr hlocks (pAt_cong hP (by rw [u3, show j0 = 0 by omega]; exact numK_0 _ _ _) (by rfl)) hS dX5_appendNumber_91
              · refine lv_aload_n hx hb dX5_appendNumber_55 rfl (lv_at hl 3 rfl) ?_
                refine p_g_signs S hin5 hK hP (hts (.fieldLink RX5 9 "EnergyDiscs$Pad" "signs" "[C") (by decide +kernel)) dX5_appendNumber_56 ?_
                refine lv_iload hx hb dX5_appendNumber_59 (lv_at hl 0 rfl) ?_
                refine x_bipush hx hb dX5_appendNumber_61 (by decide +kernel) ?_
                refine lv_iload_n hx hb dX5_appendNumber_63 rfl (lv_at hl 1 rfl) ?_
                refine x_bipush hx hb dX5_appendNumber_64 (by decide +kernel) ?_
                refine x_irem hx hb (by omega) (by omega) dX5_appendNumber_66 ?_
                refine x_iadd hx hb dX5_appendNumber_67 ?_
                refine x_i2c hx hb (by omega) dX5_appendNumber_68 ?_
                refine p_s S hK hP hI hS (bC_of (by decide) (by decide)) (by omega) (by omega) dX5_appendNumber_69 (fun H locs hP hF hS => ?_)
                refine lv_iload_n hx hb dX5_appendNumber_70 rfl (lv_at hl 1 rfl) ?_
                refine x_bipush hx hb dX5_appendNumber_71 (by decide +kernel) ?_
                refine x_idiv hx hb (by omega) (by omega) dX5_appendNumber_73 ?_
                refine lv_istore_n (lv' := [(3, .int (zI (r2 / 10))), (4, .int (zI j)), (2, .int (zI ((ndg v : Int)))), (0, .ref (a 0)), (1, .int (zI v))]) hx hb dX5_appendNumber_74 rfl hl (by decide) rfl (fun ls hl => ?_)
                refine x_iinc (x := j) (lv' := [(4, .int (zI (j + (-1)))), (3, .int (zI (r2 / 10))), (2, .int (zI ((ndg v : Int)))), (0, .ref (a 0)), (1, .int (zI v))]) hx hb dX5_appendNumber_75 hl (k := 1) rfl (by decide) rfl (fun ls hl => ?_)
                refine lv_goto (tgt := 46) hx hb dX5_appendNumber_78 (by decide) ?_
                exact ih46 (j + (-1)) (r2 / 10) (up p0 j (48 + (r2 % 10))) (j0 - 1) (by omega) (by omega) (by obtain ⟨g, hg⟩ : ∃ g, j0 = g + 1 := ⟨j0 - 1, by omega⟩; subst hg; rw [u2, show ndg v - (g + 1 - 1) = ndg v - (g + 1) + 1 by omega, ten_div]) (by obtain ⟨g, hg⟩ : ∃ g, j0 = g + 1 := ⟨j0 - 1, by omega⟩; subst hg; rw [u3]; exact numK_step (g := g) (by omega) (by omega) (by rw [u2, show ndg v - 1 - g = ndg v - (g + 1) by omega])) (by omega) (by omega) H locs hP hS ls (lv_sub hl [0, 1, 2, 3, 4] rfl)
          exact lp46 ((ndg v) + 1) ((ln + ((ndg v : Int))) - 1) v pd (ndg v) (Nat.lt_succ_self _) (by omega) (by rw [Nat.sub_self]; simp) (by exact (numK_all _ _ _).symm) (by omega) (by omega) H locs hP hS ls (lv_sub hl [0, 1, 2, 3, 4] rfl)
        · exfalso; omega
      · refine x_iinc (x := d0) (lv' := [(2, .int (zI (d0 + 1))), (3, .int (zI r)), (0, .ref (a 0)), (1, .int (zI v))]) hx hb dX5_appendNumber_11 hl (k := 1) rfl (by decide) rfl (fun ls hl => ?_)
        refine lv_iload_n hx hb dX5_appendNumber_14 rfl (lv_at hl 1 rfl) ?_
        refine x_bipush hx hb dX5_appendNumber_15 (by decide +kernel) ?_
        refine x_idiv hx hb (by omega) (by omega) dX5_appendNumber_17 ?_
        refine lv_istore_n (lv' := [(3, .int (zI (r / 10))), (2, .int (zI (d0 + 1))), (0, .ref (a 0)), (1, .int (zI v))]) hx hb dX5_appendNumber_18 rfl hl (by decide) rfl (fun ls hl => ?_)
        refine lv_goto (tgt := 7) hx hb dX5_appendNumber_19 (by decide) ?_
        exact ih7 (r / 10) (d0 + 1) (m0 + 1) (b / 10) (by omega) (by omega) (by omega) (by omega) (by rw [ten_div, ← i5]) (by have h9 : m0 ≠ 9 := (by intro q; subst q; rw [show (10 : Int) ^ 9 = 1000000000 from rfl] at i5; omega); obtain ⟨g, hg⟩ : ∃ g, 9 - m0 = g + 1 := ⟨8 - m0, by omega⟩; refine ⟨by omega, ?_⟩; have q := i4.2; rw [hg, dgs_s (by omega)] at q; rw [show 9 - (m0 + 1) = g by omega]; omega) H locs hP hS ls (lv_sub hl [0, 1, 2, 3] rfl)
  exact lp7 ((v / 10).toNat + 1) (v / 10) 1 0 v (Nat.lt_succ_self _) (by omega) (by omega) (by omega) (by simp) (by exact ⟨by decide, (Nat.zero_add _).symm⟩) s.heap [] hP hS ls (lv_sub hl [0, 1, 2, 3] rfl)