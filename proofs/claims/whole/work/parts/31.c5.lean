set_option maxHeartbeats 4000000 in
set_option maxRecDepth 100000 in
theorem c_X5_clear (l : Launch) (D : va_G) (cs : Nat → ClassId) (a : Int → Nat) (pd : Int → Int) (ln : Int) (hI : pI2 a) : kM D cs l yX5_clear wsX5_clear ({ frames := 0, cells := 0, slots := 0, locals := 0 } : Room) [.ref (a 0)] (fun H => pAt D cs a pd ln H) none (fun H => pAt D cs a pd 0 H) (pC2 a) := by
  refine Met.ofW (cc := cX5_clear) (maxL := 1) (ret := none) (by decide) rfl ?_
  intro p e s m args below meth c s₁ B hml hv
  obtain ⟨rfl, hK, hP⟩ := hv
  have hx := B.exec
  have hb := B.bytes
  have hr := B.returns
  have hts := atoms_spec (ws := wsX5_clear) B.pre
  have hown : s.vm.findClass RX5 = some m.cls := findClass_of_methodNamed B.named
  have hlocks := B.notSynchronized
  have S : CallFix p m c cX5_clear 1 s (([.ref (a 0)] : List Value)).toArray wsX5_clear RX5 := ⟨hx, hb, hml, hown, hts⟩
  have hin5 : ∀ w ∈ wsX50, w ∈ wsX5_clear := by decide +kernel
  have hS : va_S (pC2 a) s.heap s.heap [] := va_S.rf
  have hl := lv_entry ([.ref (a 0)]) (n := 1) (Nat.le_of_ble_eq_true rfl)
  rw [lg_entry_eq]
  generalize (lg_sl ([.ref (a 0)]) ++ List.replicate (1 - (lg_sl ([.ref (a 0)])).length) Slot.unset).toArray = ls at hl ⊢
  have hl : lv_has ls 1 [(0, .ref (a 0))] := hl
  refine lv_aload_n hx hb dX5_clear_0 rfl (lv_at hl 0 rfl) ?_
  refine x_iconst hx hb dX5_clear_1 ?_
  refine p_p_length S hin5 hK hP hI hS (bC_of (by decide) (by decide)) (hts (.fieldLink RX5 15 "EnergyDiscs$Pad" "length" "I") (by decide +kernel)) dX5_clear_2 (fun H locs hP hF hS => ?_)
  exact x_vretM hx hb hr hlocks hP hS dX5_clear_5
set_option maxHeartbeats 4000000 in
set_option maxRecDepth 100000 in
theorem c_X5_signAt (l : Launch) (D : va_G) (cs : Nat → ClassId) (a : Int → Nat) (pd : Int → Int) (ln : Int) (k : Int) (hk : -2147483648 ≤ k ∧ k < 2147483648) (hl0 : 0 ≤ ln ∧ ln ≤ 80) : kR D cs l yX5_signAt wsX5_signAt ({ frames := 0, cells := 0, slots := 0, locals := 0 } : Room) [.ref (a 0), .int (zI k)] (fun H => pAt D cs a pd ln H) (some (.int (zI (sgA pd ln k)))) := by
  refine Met.ofW (cc := cX5_signAt) (maxL := 2) (ret := (some .int)) (by decide) rfl ?_
  intro p e s m args below meth c s₁ B hml hv
  obtain ⟨rfl, hK, hP⟩ := hv
  have hx := B.exec
  have hb := B.bytes
  have hr := B.returns
  have hts := atoms_spec (ws := wsX5_signAt) B.pre
  have hown : s.vm.findClass RX5 = some m.cls := findClass_of_methodNamed B.named
  have hlocks := B.notSynchronized
  have S : CallFix p m c cX5_signAt 2 s (([.ref (a 0), .int (zI k)] : List Value)).toArray wsX5_signAt RX5 := ⟨hx, hb, hml, hown, hts⟩
  have hin5 : ∀ w ∈ wsX50, w ∈ wsX5_signAt := by decide +kernel
  have hl := lv_entry ([.ref (a 0), .int (zI k)]) (n := 2) (Nat.le_of_ble_eq_true rfl)
  rw [lg_entry_eq]
  generalize (lg_sl ([.ref (a 0), .int (zI k)]) ++ List.replicate (2 - (lg_sl ([.ref (a 0), .int (zI k)])).length) Slot.unset).toArray = ls at hl ⊢
  have hl : lv_has ls 2 [(0, .ref (a 0)), (1, .int (zI k))] := hl
  refine lv_iload_n hx hb dX5_signAt_0 rfl (lv_at hl 1 rfl) ?_
  refine x_if_lt (tgt := 21) hx hb dX5_signAt_1 (by decide) (by omega) (fun c_1 => ?_) (fun c_1 => ?_)
  · refine x_iconst hx hb dX5_signAt_21 ?_
    exact x_iretR hx hb hr hlocks (by unfold sgA; first | (rw [if_pos (by omega)]) | (rw [if_neg (by omega)])) rfl dX5_signAt_22
  · refine lv_iload_n hx hb dX5_signAt_4 rfl (lv_at hl 1 rfl) ?_
    refine lv_aload_n hx hb dX5_signAt_5 rfl (lv_at hl 0 rfl) ?_
    refine p_g_length S hin5 hK hP (hts (.fieldLink RX5 15 "EnergyDiscs$Pad" "length" "I") (by decide +kernel)) dX5_signAt_6 ?_
    refine x_icmp_ge (tgt := 21) hx hb dX5_signAt_9 (by decide) (by omega) (by omega) (fun c_9 => ?_) (fun c_9 => ?_)
    · refine x_iconst hx hb dX5_signAt_21 ?_
      exact x_iretR hx hb hr hlocks (by unfold sgA; first | (rw [if_pos (by omega)]) | (rw [if_neg (by omega)])) rfl dX5_signAt_22
    · refine lv_aload_n hx hb dX5_signAt_12 rfl (lv_at hl 0 rfl) ?_
      refine p_g_signs S hin5 hK hP (hts (.fieldLink RX5 9 "EnergyDiscs$Pad" "signs" "[C") (by decide +kernel)) dX5_signAt_13 ?_
      refine lv_iload_n hx hb dX5_signAt_16 rfl (lv_at hl 1 rfl) ?_
      refine p_l S hK hP (by omega) dX5_signAt_17 ?_
      refine lv_goto (tgt := 22) hx hb dX5_signAt_18 (by decide) ?_
      exact x_iretR hx hb hr hlocks (by unfold sgA; first | (rw [if_pos (by omega)]) | (rw [if_neg (by omega)])) rfl dX5_signAt_22
set_option maxHeartbeats 4000000 in
set_option maxRecDepth 100000 in
theorem c_X5_append (l : Launch) (D : va_G) (cs : Nat → ClassId) (a : Int → Nat) (pd : Int → Int) (ln : Int) (c0 : Int) (hc : 0 ≤ c0 ∧ c0 < 65536) (hl0 : 0 ≤ ln ∧ ln < 80) (hI : pI2 a) : kM D cs l yX5_append wsX5_append ({ frames := 0, cells := 0, slots := 0, locals := 0 } : Room) [.ref (a 0), .int (zI c0)] (fun H => pAt D cs a pd ln H) none (fun H => pAt D cs a (up pd ln c0) (ln + 1) H) (pC2 a) := by
  refine Met.ofW (cc := cX5_append) (maxL := 2) (ret := none) (by decide) rfl ?_
  intro p e s m args below meth c s₁ B hml hv
  obtain ⟨rfl, hK, hP⟩ := hv
  have hx := B.exec
  have hb := B.bytes
  have hr := B.returns
  have hts := atoms_spec (ws := wsX5_append) B.pre
  have hown : s.vm.findClass RX5 = some m.cls := findClass_of_methodNamed B.named
  have hlocks := B.notSynchronized
  have S : CallFix p m c cX5_append 2 s (([.ref (a 0), .int (zI c0)] : List Value)).toArray wsX5_append RX5 := ⟨hx, hb, hml, hown, hts⟩
  have hin5 : ∀ w ∈ wsX50, w ∈ wsX5_append := by decide +kernel
  have hS : va_S (pC2 a) s.heap s.heap [] := va_S.rf
  have hl := lv_entry ([.ref (a 0), .int (zI c0)]) (n := 2) (Nat.le_of_ble_eq_true rfl)
  rw [lg_entry_eq]
  generalize (lg_sl ([.ref (a 0), .int (zI c0)]) ++ List.replicate (2 - (lg_sl ([.ref (a 0), .int (zI c0)])).length) Slot.unset).toArray = ls at hl ⊢
  have hl : lv_has ls 2 [(0, .ref (a 0)), (1, .int (zI c0))] := hl
  refine lv_aload_n hx hb dX5_append_0 rfl (lv_at hl 0 rfl) ?_
  refine p_g_length S hin5 hK hP (hts (.fieldLink RX5 15 "EnergyDiscs$Pad" "length" "I") (by decide +kernel)) dX5_append_1 ?_
  refine x_bipush hx hb dX5_append_4 (by decide +kernel) ?_
  refine x_icmp_ge (tgt := 29) hx hb dX5_append_6 (by decide) (by omega) (by omega) (fun c_6 => ?_) (fun c_6 => ?_)
  · exfalso; omega
  · refine lv_aload_n hx hb dX5_append_9 rfl (lv_at hl 0 rfl) ?_
    refine p_g_signs S hin5 hK hP (hts (.fieldLink RX5 9 "EnergyDiscs$Pad" "signs" "[C") (by decide +kernel)) dX5_append_10 ?_
    refine lv_aload_n hx hb dX5_append_13 rfl (lv_at hl 0 rfl) ?_
    refine p_g_length S hin5 hK hP (hts (.fieldLink RX5 15 "EnergyDiscs$Pad" "length" "I") (by decide +kernel)) dX5_append_14 ?_
    refine lv_iload_n hx hb dX5_append_17 rfl (lv_at hl 1 rfl) ?_
    refine p_s S hK hP hI hS (bC_of (by decide) (by decide)) (by omega) (by omega) dX5_append_18 (fun H locs hP hF hS => ?_)
    refine lv_aload_n hx hb dX5_append_19 rfl (lv_at hl 0 rfl) ?_
    refine lv_dup hx hb dX5_append_20 rfl ?_
    refine p_g_length S hin5 hK hP (hts (.fieldLink RX5 15 "EnergyDiscs$Pad" "length" "I") (by decide +kernel)) dX5_append_21 ?_
    refine x_iconst hx hb dX5_append_24 ?_
    refine x_iadd hx hb dX5_append_25 ?_
    refine p_p_length S hin5 hK hP hI hS (bC_of (by decide) (by decide)) (hts (.fieldLink RX5 15 "EnergyDiscs$Pad" "length" "I") (by decide +kernel)) dX5_append_26 (fun H locs hP hF hS => ?_)
    exact x_vretM hx hb hr hlocks hP hS dX5_append_29
set_option maxHeartbeats 4000000 in
set_option maxRecDepth 100000 in
theorem c_X5_appendNumber (l : Launch) (D : va_G) (cs : Nat → ClassId) (a : Int → Nat) (pd : Int → Int) (ln : Int) (v : Int) (hvv : 0 ≤ v ∧ v < 2147483648) (hl0 : 0 ≤ ln ∧ ln + (ndg v : Int) ≤ 80) (hI : pI2 a) : kM D cs l yX5_appendNumber wsX5_appendNumber ({ frames := 0, cells := 0, slots := 0, locals := 0 } : Room) [.ref (a 0), .int (zI v)] (fun H => pAt D cs a pd ln H) none (fun H => pAt D cs a (numW pd ln v) (ln + (ndg v : Int)) H) (pC2 a) := by
  refine Met.ofW (cc := cX5_appendNumber) (maxL := 5) (ret := none) (by decide) rfl ?_
  intro p e s m args below meth c s₁ B hml hv
  obtain ⟨rfl, hK, hP⟩ := hv
  have hx := B.exec
  have hb := B.bytes
  have hr := B.returns
  have hts := atoms_spec (ws := wsX5_appendNumber) B.pre
  have hown : s.vm.findClass RX5 = some m.cls := findClass_of_methodNamed B.named
  have hlocks := B.notSynchronized
  have S : CallFix p m c cX5_appendNumber 5 s (([.ref (a 0), .int (zI v)] : List Value)).toArray wsX5_appendNumber RX5 := ⟨hx, hb, hml, hown, hts⟩
  have hin5 : ∀ w ∈ wsX50, w ∈ wsX5_appendNumber := by decide +kernel
  have hS : va_S (pC2 a) s.heap s.heap [] := va_S.rf
  have hl := lv_entry ([.ref (a 0), .int (zI v)]) (n := 5) (Nat.le_of_ble_eq_true rfl)
  rw [lg_entry_eq]
  generalize (lg_sl ([.ref (a 0), .int (zI v)]) ++ List.replicate (5 - (lg_sl ([.ref (a 0), .int (zI v)])).length) Slot.unset).toArray = ls at hl ⊢
  have hl : lv_has ls 5 [(0, .ref (a 0)), (1, .int (zI v))] := hl
  have hnl := ndg_le v
  refine x_iconst hx hb dX5_appendNumber_0 ?_
  refine lv_istore_n (lv' := [(2, .int (zI 1)), (0, .ref (a 0)), (1, .int (zI v))]) hx hb dX5_appendNumber_1 rfl hl (by decide) rfl (fun ls hl => ?_)
  refine lv_iload_n hx hb dX5_appendNumber_2 rfl (lv_at hl 2 rfl) ?_
  refine x_bipush hx hb dX5_appendNumber_3 (by decide +kernel) ?_
  refine x_idiv hx hb (by omega) (by omega) dX5_appendNumber_5 ?_
  refine lv_istore_n (lv' := [(3, .int (zI (v / 10))), (2, .int (zI 1)), (0, .ref (a 0)), (1, .int (zI v))]) hx hb dX5_appendNumber_6 rfl hl (by decide) rfl (fun ls hl => ?_)
  have lp7 : ∀ (n : Nat) (r : Int) (d0 : Int) (m0 : Nat) (b : Int), r.toNat < n → (d0 = (m0 : Int) + 1) → (r = b / 10) → (0 ≤ b ∧ b ≤ v) → (b = v / 10 ^ m0) → (m0 ≤ 9 ∧ ndg v = m0 + dgs (9 - m0) b) → ∀ (H : Heap) (locs : List Loc), pAt D cs a pd ln H → va_S (pC2 a) s.heap H locs → ∀ (ls : Array Slot), lv_has ls 5 [(3, .int (zI r)), (2, .int (zI d0)), (0, .ref (a 0)), (1, .int (zI v))] → W p l e (headSpec wsX5_appendNumber ({ frames := 0, cells := 0, slots := 0, locals := 0 } : Room)).room s m ([.ref (a 0), .int (zI v)] : List Value).toArray below meth c H locs 0 0 (MQ below (kQ none (fun H => pAt D cs a (numW pd ln v) (ln + (ndg v : Int)) H) (pC2 a)) ([.ref (a 0), .int (zI v)] : List Value).toArray s 0 0 (pC2 a)) (F0 m 7 ls []) := by
    intro n
    induction n with
    | zero => intro r d0 m0 b hms; exact absurd hms (Nat.not_lt_zero _)
    | succ n ih =>
      intro r d0 m0 b hms i1 i2 i3 i5 i4 H locs hP hS ls hl
      have ih7 := ih
      clear ih
      refine lv_iload_n hx hb dX5_appendNumber_7 rfl (lv_at hl 0 rfl) ?_
      refine x_if_le (tgt := 22) hx hb dX5_appendNumber_8 (by decide) (by omega) (fun c_8 => ?_) (fun c_8 => ?_)
      · rw [show (d0 : Int) = (ndg v : Int) from by have hd1 := dgs_1 (9 - m0) b (by omega); omega] at hl
        refine lv_aload_n hx hb dX5_appendNumber_22 rfl (lv_at hl 2 rfl) ?_
        refine p_g_length S hin5 hK hP (hts (.fieldLink RX5 15 "EnergyDiscs$Pad" "length" "I") (by decide +kernel)) dX5_appendNumber_23 ?_
        refine lv_iload_n hx hb dX5_appendNumber_26 rfl (lv_at hl 1 rfl) ?_
        refine x_iadd hx hb dX5_appendNumber_27 ?_
        refine x_bipush hx hb dX5_appendNumber_28 (by decide +kernel) ?_
        refine x_icmp_le (tgt := 34) hx hb dX5_appendNumber_30 (by decide) (by omega) (by omega) (fun c_30 => ?_) (fun c_30 => ?_)
        · refine lv_iload_n hx hb dX5_appendNumber_34 rfl (lv_at hl 3 rfl) ?_
          refine lv_istore_n (lv' := [(3, .int (zI v)), (2, .int (zI ((ndg v : Int)))), (0, .ref (a 0)), (1, .int (zI v))]) hx hb dX5_appendNumber_35 rfl hl (by decide) rfl (fun ls hl => ?_)
          refine lv_aload_n hx hb dX5_appendNumber_36 rfl (lv_at hl 2 rfl) ?_
          refine p_g_length S hin5 hK hP (hts (.fieldLink RX5 15 "EnergyDiscs$Pad" "length" "I") (by decide +kernel)) dX5_appendNumber_37 ?_
          refine lv_iload_n hx hb dX5_appendNumber_40 rfl (lv_at hl 1 rfl) ?_
          refine x_iadd hx hb dX5_appendNumber_41 ?_
          refine x_iconst hx hb dX5_appendNumber_42 ?_
          refine x_isub hx hb dX5_appendNumber_43 ?_
          refine lv_istore (lv' := [(4, .int (zI ((ln + ((ndg v : Int))) - 1))), (3, .int (zI v)), (2, .int (zI ((ndg v : Int)))), (0, .ref (a 0)), (1, .int (zI v))]) hx hb dX5_appendNumber_44 hl (by decide) rfl (fun ls hl => ?_)
          have lp46 : ∀ (n : Nat) (j : Int) (r2 : Int) (p0 : Int → Int) (j0 : Nat), j0 < n → (j = ln + (j0 : Int) - 1) → (r2 = v / 10 ^ (ndg v - j0)) → (p0 = numK pd ln v j0) → (j0 ≤ ndg v) → (0 ≤ r2 ∧ r2 ≤ v) → ∀ (H : Heap) (locs : List Loc), pAt D cs a p0 ln H → va_S (pC2 a) s.heap H locs → ∀ (ls : Array Slot), lv_has ls 5 [(4, .int (zI j)), (3, .int (zI r2)), (2, .int (zI ((ndg v : Int)))), (0, .ref (a 0)), (1, .int (zI v))] → W p l e (headSpec wsX5_appendNumber ({ frames := 0, cells := 0, slots := 0, locals := 0 } : Room)).room s m ([.ref (a 0), .int (zI v)] : List Value).toArray below meth c H locs 0 0 (MQ below (kQ none (fun H => pAt D cs a (numW pd ln v) (ln + (ndg v : Int)) H) (pC2 a)) ([.ref (a 0), .int (zI v)] : List Value).toArray s 0 0 (pC2 a)) (F0 m 46 ls []) := by
            intro n
            induction n with
            | zero => intro j r2 p0 j0 hms; exact absurd hms (Nat.not_lt_zero _)
            | succ n ih =>
              intro j r2 p0 j0 hms u1 u2 u3 u4 u5 H locs hP hS ls hl
              have hz : j0 = 0 ∨ ∃ g, j0 = g + 1 := by cases j0 with | zero => exact Or.inl rfl | succ g => exact Or.inr ⟨g, rfl⟩
              have ih46 := ih
              clear ih
              refine lv_iload hx hb dX5_appendNumber_46 (lv_at hl 0 rfl) ?_
              refine lv_aload_n hx hb dX5_appendNumber_48 rfl (lv_at hl 3 rfl) ?_
              refine p_g_length S hin5 hK hP (hts (.fieldLink RX5 15 "EnergyDiscs$Pad" "length" "I") (by decide +kernel)) dX5_appendNumber_49 ?_
              refine x_icmp_lt (tgt := 81) hx hb dX5_appendNumber_52 (by decide) (by omega) (by omega) (fun c_52 => ?_) (fun c_52 => ?_)
              · refine lv_aload_n hx hb dX5_appendNumber_81 rfl (lv_at hl 3 rfl) ?_
                refine lv_dup hx hb dX5_appendNumber_82 rfl ?_
                refine p_g_length S hin5 hK hP (hts (.fieldLink RX5 15 "EnergyDiscs$Pad" "length" "I") (by decide +kernel)) dX5_appendNumber_83 ?_
                refine lv_iload_n hx hb dX5_appendNumber_86 rfl (lv_at hl 2 rfl) ?_
                refine x_iadd hx hb dX5_appendNumber_87 ?_
                refine p_p_length S hin5 hK hP hI hS (bC_of (by decide) (by decide)) (hts (.fieldLink RX5 15 "EnergyDiscs$Pad" "length" "I") (by decide +kernel)) dX5_appendNumber_88 (fun H locs hP hF hS => ?_)
                exact x_vretM hx hb hr hlocks (pAt_cong hP (by rw [u3, show j0 = 0 by omega]; exact numK_0 _ _ _) (by rfl)) hS dX5_appendNumber_91
              · refine lv_aload_n hx hb dX5_appendNumber_55 rfl (lv_at hl 3 rfl) ?_
                refine p_g_signs S hin5 hK hP (hts (.fieldLink RX5 9 "EnergyDiscs$Pad" "signs" "[C") (by decide +kernel)) dX5_appendNumber_56 ?_
                refine lv_iload hx hb dX5_appendNumber_59 (lv_at hl 0 rfl) ?_
                refine x_bipush hx hb dX5_appendNumber_61 (by decide +kernel) ?_
                refine lv_iload_n hx hb dX5_appendNumber_63 rfl (lv_at hl 1 rfl) ?_
                refine x_bipush hx hb dX5_appendNumber_64 (by decide +kernel) ?_
                refine x_irem hx hb (by omega) (by omega) dX5_appendNumber_66 ?_
                refine x_iadd hx hb dX5_appendNumber_67 ?_
                refine x_i2c hx hb (by omega) dX5_appendNumber_68 ?_
                refine p_s S hK hP hI hS (bC_of (by decide) (by decide)) (by omega) (by omega) dX5_appendNumber_69 (fun H locs hP hF hS => ?_)
                refine lv_iload_n hx hb dX5_appendNumber_70 rfl (lv_at hl 1 rfl) ?_
                refine x_bipush hx hb dX5_appendNumber_71 (by decide +kernel) ?_
                refine x_idiv hx hb (by omega) (by omega) dX5_appendNumber_73 ?_
                refine lv_istore_n (lv' := [(3, .int (zI (r2 / 10))), (4, .int (zI j)), (2, .int (zI ((ndg v : Int)))), (0, .ref (a 0)), (1, .int (zI v))]) hx hb dX5_appendNumber_74 rfl hl (by decide) rfl (fun ls hl => ?_)
                refine x_iinc (x := j) (lv' := [(4, .int (zI (j + (-1)))), (3, .int (zI (r2 / 10))), (2, .int (zI ((ndg v : Int)))), (0, .ref (a 0)), (1, .int (zI v))]) hx hb dX5_appendNumber_75 hl (k := 1) rfl (by decide) rfl (fun ls hl => ?_)
                refine lv_goto (tgt := 46) hx hb dX5_appendNumber_78 (by decide) ?_
                exact ih46 (j + (-1)) (r2 / 10) (up p0 j (48 + (r2 % 10))) (j0 - 1) (by omega) (by omega) (by obtain ⟨g, hg⟩ : ∃ g, j0 = g + 1 := ⟨j0 - 1, by omega⟩; subst hg; rw [u2, show ndg v - (g + 1 - 1) = ndg v - (g + 1) + 1 by omega, ten_div]) (by obtain ⟨g, hg⟩ : ∃ g, j0 = g + 1 := ⟨j0 - 1, by omega⟩; subst hg; rw [u3]; exact numK_step (g := g) (by omega) (by omega) (by rw [u2, show ndg v - 1 - g = ndg v - (g + 1) by omega])) (by omega) (by omega) H locs hP hS ls (lv_sub hl [0, 1, 2, 3, 4] rfl)
          exact lp46 ((ndg v) + 1) ((ln + ((ndg v : Int))) - 1) v pd (ndg v) (Nat.lt_succ_self _) (by omega) (by rw [Nat.sub_self]; simp) (by exact (numK_all _ _ _).symm) (by omega) (by omega) H locs hP hS ls (lv_sub hl [0, 1, 2, 3, 4] rfl)
        · exfalso; omega
      · refine x_iinc (x := d0) (lv' := [(2, .int (zI (d0 + 1))), (3, .int (zI r)), (0, .ref (a 0)), (1, .int (zI v))]) hx hb dX5_appendNumber_11 hl (k := 1) rfl (by decide) rfl (fun ls hl => ?_)
        refine lv_iload_n hx hb dX5_appendNumber_14 rfl (lv_at hl 1 rfl) ?_
        refine x_bipush hx hb dX5_appendNumber_15 (by decide +kernel) ?_
        refine x_idiv hx hb (by omega) (by omega) dX5_appendNumber_17 ?_
        refine lv_istore_n (lv' := [(3, .int (zI (r / 10))), (2, .int (zI (d0 + 1))), (0, .ref (a 0)), (1, .int (zI v))]) hx hb dX5_appendNumber_18 rfl hl (by decide) rfl (fun ls hl => ?_)
        refine lv_goto (tgt := 7) hx hb dX5_appendNumber_19 (by decide) ?_
        exact ih7 (r / 10) (d0 + 1) (m0 + 1) (b / 10) (by omega) (by omega) (by omega) (by omega) (by rw [ten_div, ← i5]) (by have h9 : m0 ≠ 9 := (by intro q; subst q; rw [show (10 : Int) ^ 9 = 1000000000 from rfl] at i5; omega); obtain ⟨g, hg⟩ : ∃ g, 9 - m0 = g + 1 := ⟨8 - m0, by omega⟩; refine ⟨by omega, ?_⟩; have q := i4.2; rw [hg, dgs_s (by omega)] at q; rw [show 9 - (m0 + 1) = g by omega]; omega) H locs hP hS ls (lv_sub hl [0, 1, 2, 3] rfl)
  exact lp7 ((v / 10).toNat + 1) (v / 10) 1 0 v (Nat.lt_succ_self _) (by omega) (by omega) (by omega) (by simp) (by exact ⟨by decide, (Nat.zero_add _).symm⟩) s.heap [] hP hS ls (lv_sub hl [0, 1, 2, 3] rfl)
set_option maxHeartbeats 4000000 in
set_option maxRecDepth 100000 in
theorem c_X5_numberIn (l : Launch) (D : va_G) (cs : Nat → ClassId) (a : Int → Nat) (pd : Int → Int) (ln : Int) (fr : Int) (en : Int) (hfr : 0 ≤ fr ∧ fr ≤ en ∧ en ≤ ln) (hl0 : 0 ≤ ln ∧ ln ≤ 80) : kR D cs l yX5_numberIn wsX5_numberIn ({ frames := 1, cells := 0, slots := 0, locals := 21 } : Room) [.ref (a 0), .int (zI fr), .int (zI en)] (fun H => pAt D cs a pd ln H) (some (.int (zI (cnv pd ln fr (en - fr).toNat)))) := by
  refine Met.ofW (cc := cX5_numberIn) (maxL := 5) (ret := (some .int)) (by decide) rfl ?_
  intro p e s m args below meth c s₁ B hml hv
  obtain ⟨rfl, hK, hP⟩ := hv
  have hx := B.exec
  have hb := B.bytes
  have hr := B.returns
  have hts := atoms_spec (ws := wsX5_numberIn) B.pre
  have hown : s.vm.findClass RX5 = some m.cls := findClass_of_methodNamed B.named
  have hlocks := B.notSynchronized
  have S : CallFix p m c cX5_numberIn 5 s (([.ref (a 0), .int (zI fr), .int (zI en)] : List Value)).toArray wsX5_numberIn RX5 := ⟨hx, hb, hml, hown, hts⟩
  have hl := lv_entry ([.ref (a 0), .int (zI fr), .int (zI en)]) (n := 5) (Nat.le_of_ble_eq_true rfl)
  rw [lg_entry_eq]
  generalize (lg_sl ([.ref (a 0), .int (zI fr), .int (zI en)]) ++ List.replicate (5 - (lg_sl ([.ref (a 0), .int (zI fr), .int (zI en)])).length) Slot.unset).toArray = ls at hl ⊢
  have hl : lv_has ls 5 [(0, .ref (a 0)), (1, .int (zI fr)), (2, .int (zI en))] := hl
  refine x_iconst hx hb dX5_numberIn_0 ?_
  refine lv_istore_n (lv' := [(3, .int (zI 0)), (0, .ref (a 0)), (1, .int (zI fr)), (2, .int (zI en))]) hx hb dX5_numberIn_1 rfl hl (by decide) rfl (fun ls hl => ?_)
  refine lv_iload_n hx hb dX5_numberIn_2 rfl (lv_at hl 2 rfl) ?_
  refine lv_istore (lv' := [(4, .int (zI fr)), (3, .int (zI 0)), (0, .ref (a 0)), (1, .int (zI fr)), (2, .int (zI en))]) hx hb dX5_numberIn_3 hl (by decide) rfl (fun ls hl => ?_)
  have lp5 : ∀ (n : Nat) (j : Int) (x0 : Int) (n0 : Nat), (en - j).toNat < n → (fr ≤ j ∧ j ≤ en) → (j = fr + (n0 : Int)) → (x0 = cnv pd ln fr n0) → ∀ (ls : Array Slot), lv_has ls 5 [(4, .int (zI j)), (3, .int (zI x0)), (0, .ref (a 0)), (1, .int (zI fr)), (2, .int (zI en))] → W p l e (headSpec wsX5_numberIn ({ frames := 1, cells := 0, slots := 0, locals := 21 } : Room)).room s m ([.ref (a 0), .int (zI fr), .int (zI en)] : List Value).toArray below meth c s.heap [] 0 0 (MQ below (kS (some (.int (zI (cnv pd ln fr (en - fr).toNat))))) ([.ref (a 0), .int (zI fr), .int (zI en)] : List Value).toArray s 0 0 (fun _ => False)) (F0 m 5 ls []) := by
    intro n
    induction n with
    | zero => intro j x0 n0 hms; exact absurd hms (Nat.not_lt_zero _)
    | succ n ih =>
      intro j x0 n0 hms hj hn ha ls hl
      have ih5 := ih
      clear ih
      refine lv_iload hx hb dX5_numberIn_5 (lv_at hl 0 rfl) ?_
      refine lv_iload_n hx hb dX5_numberIn_7 rfl (lv_at hl 4 rfl) ?_
      refine x_icmp_ge (tgt := 32) hx hb dX5_numberIn_8 (by decide) (by omega) (by omega) (fun c_8 => ?_) (fun c_8 => ?_)
      · refine lv_iload_n hx hb dX5_numberIn_32 rfl (lv_at hl 1 rfl) ?_
        exact x_iretR hx hb hr hlocks (by rw [ha, show (en - fr).toNat = n0 by omega]) rfl dX5_numberIn_33
      · refine lv_iload_n hx hb dX5_numberIn_11 rfl (lv_at hl 1 rfl) ?_
        refine x_bipush hx hb dX5_numberIn_12 (by decide +kernel) ?_
        refine x_imul hx hb dX5_numberIn_14 ?_
        refine lv_aload_n hx hb dX5_numberIn_15 rfl (lv_at hl 2 rfl) ?_
        refine lv_iload hx hb dX5_numberIn_16 (lv_at hl 0 rfl) ?_
        refine x_callVR (As := [.int (zI j)]) (rest := [.int (zI (x0 * 10))]) S hK (c_X5_signAt l D cs a pd ln j (by omega) (by omega)) (cwV 1 hts gX5_numberIn_X5_signAt rfl rfl rfl (by decide +kernel) ⟨(Nat.le_of_ble_eq_true rfl), (Nat.le_of_ble_eq_true rfl)⟩) (x_rc hK (pAt_0 hP) rfl) hP rfl hl.1 (Nat.le_of_ble_eq_true rfl) dX5_numberIn_18 ⟨Nat.zero_le _, Nat.zero_le _⟩ ?_
        refine x_iadd hx hb dX5_numberIn_21 ?_
        refine x_bipush hx hb dX5_numberIn_22 (by decide +kernel) ?_
        refine x_isub hx hb dX5_numberIn_24 ?_
        refine lv_istore_n (lv' := [(3, .int (zI (((x0 * 10) + (sgA pd ln j)) - 48))), (4, .int (zI j)), (0, .ref (a 0)), (1, .int (zI fr)), (2, .int (zI en))]) hx hb dX5_numberIn_25 rfl hl (by decide) rfl (fun ls hl => ?_)
        refine x_iinc (x := j) (lv' := [(4, .int (zI (j + 1))), (3, .int (zI (((x0 * 10) + (sgA pd ln j)) - 48))), (0, .ref (a 0)), (1, .int (zI fr)), (2, .int (zI en))]) hx hb dX5_numberIn_26 hl (k := 1) rfl (by decide) rfl (fun ls hl => ?_)
        refine lv_goto (tgt := 5) hx hb dX5_numberIn_29 (by decide) ?_
        exact ih5 (j + 1) (((x0 * 10) + (sgA pd ln j)) - 48) (n0 + 1) (by omega) (by omega) (by omega) (by rw [ha, hn]; rfl) ls (lv_sub hl [0, 1, 2, 3, 4] rfl)
  exact lp5 ((en - fr).toNat + 1) fr 0 0 (Nat.lt_succ_self _) (by omega) (by omega) (by rfl) ls (lv_sub hl [0, 1, 2, 3, 4] rfl)
set_option maxHeartbeats 4000000 in
set_option maxRecDepth 100000 in
theorem c_X5_signOf (l : Launch) (D : va_G) (cs : Nat → ClassId) (x : Int) (k : Int) (hk : 0 ≤ k ∧ k ≤ 7) : kR D cs l yX5_signOf wsX5_signOf ({ frames := 0, cells := 0, slots := 0, locals := 0 } : Room) [.long (zL x), .int (zI k)] (fun _ => True) (some (.int (zI (byS x k)))) := by
  refine Met.ofW (cc := cX5_signOf) (maxL := 3) (ret := (some .char)) (by decide) rfl ?_
  intro p e s m args below meth c s₁ B hml hv
  obtain ⟨rfl, hK, -⟩ := hv
  have hx := B.exec
  have hb := B.bytes
  have hr := B.returns
  have hts := atoms_spec (ws := wsX5_signOf) B.pre
  have hown : s.vm.findClass RX5 = some m.cls := findClass_of_methodNamed B.named
  have hlocks := B.notSynchronized
  have S : CallFix p m c cX5_signOf 3 s (([.long (zL x), .int (zI k)] : List Value)).toArray wsX5_signOf RX5 := ⟨hx, hb, hml, hown, hts⟩
  have hl := lv_entry ([.long (zL x), .int (zI k)]) (n := 3) (Nat.le_of_ble_eq_true rfl)
  rw [lg_entry_eq]
  generalize (lg_sl ([.long (zL x), .int (zI k)]) ++ List.replicate (3 - (lg_sl ([.long (zL x), .int (zI k)])).length) Slot.unset).toArray = ls at hl ⊢
  have hl : lv_has ls 3 [(0, .long (zL x)), (2, .int (zI k))] := hl
  refine lv_lload_n hx hb dX5_signOf_0 rfl (lv_at hl 0 rfl) ?_
  refine x_bipush hx hb dX5_signOf_1 (by decide +kernel) ?_
  refine lv_iload_n hx hb dX5_signOf_3 rfl (lv_at hl 1 rfl) ?_
  refine x_imul hx hb dX5_signOf_4 ?_
  refine x_lushr (k := k) hx hb (by omega) dX5_signOf_5 ?_
  refine x_ldc2 (v := 255) hx hb hown (hts (.constantLong RX5 27 (zL 255)) (by decide +kernel)) dX5_signOf_6 ?_
  refine x_land hx hb dX5_signOf_9 ?_
  refine x_l2i hx hb dX5_signOf_10 ?_
  refine x_i2c hx hb (by omega) dX5_signOf_11 ?_
  exact x_cretR hx hb hr hlocks (by exact usr_byS hk) (by omega) rfl dX5_signOf_12
set_option maxHeartbeats 4000000 in
set_option maxRecDepth 100000 in
theorem c_X5_signsIn (l : Launch) (D : va_G) (cs : Nat → ClassId) (x : Int) (hxr : -9223372036854775808 ≤ x ∧ x < 9223372036854775808) : kR D cs l yX5_signsIn wsX5_signsIn ({ frames := 1, cells := 0, slots := 0, locals := 22 } : Room) [.long (zL x)] (fun _ => True) (some (.int (zI (sgN x)))) := by
  refine Met.ofW (cc := cX5_signsIn) (maxL := 4) (ret := (some .int)) (by decide) rfl ?_
  intro p e s m args below meth c s₁ B hml hv
  obtain ⟨rfl, hK, -⟩ := hv
  have hx := B.exec
  have hb := B.bytes
  have hr := B.returns
  have hts := atoms_spec (ws := wsX5_signsIn) B.pre
  have hown : s.vm.findClass RX5 = some m.cls := findClass_of_methodNamed B.named
  have hlocks := B.notSynchronized
  have S : CallFix p m c cX5_signsIn 4 s (([.long (zL x)] : List Value)).toArray wsX5_signsIn RX5 := ⟨hx, hb, hml, hown, hts⟩
  have hl := lv_entry ([.long (zL x)]) (n := 4) (Nat.le_of_ble_eq_true rfl)
  rw [lg_entry_eq]
  generalize (lg_sl ([.long (zL x)]) ++ List.replicate (4 - (lg_sl ([.long (zL x)])).length) Slot.unset).toArray = ls at hl ⊢
  have hl : lv_has ls 4 [(0, .long (zL x))] := hl
  refine x_iconst hx hb dX5_signsIn_0 ?_
  refine lv_istore_n (lv' := [(2, .int (zI 0)), (0, .long (zL x))]) hx hb dX5_signsIn_1 rfl hl (by decide) rfl (fun ls hl => ?_)
  have lp2 : ∀ (n : Nat) (g : Int) (n0 : Nat), 8 - n0 < n → (g = (n0 : Int)) → (n0 ≤ 8) → (ptE x n0 = 0 ∧ ptR x n0 = 1 ∧ ptM x n0 = (n0 : Int)) → ∀ (ls : Array Slot), lv_has ls 4 [(2, .int (zI g)), (0, .long (zL x))] → W p l e (headSpec wsX5_signsIn ({ frames := 1, cells := 0, slots := 0, locals := 22 } : Room)).room s m ([.long (zL x)] : List Value).toArray below meth c s.heap [] 0 0 (MQ below (kS (some (.int (zI (sgN x))))) ([.long (zL x)] : List Value).toArray s 0 0 (fun _ => False)) (F0 m 2 ls []) := by
    intro n
    induction n with
    | zero => intro g n0 hms; exact absurd hms (Nat.not_lt_zero _)
    | succ n ih =>
      intro g n0 hms i1 i0 i2 ls hl
      have ih2 := ih
      clear ih
      refine lv_iload_n hx hb dX5_signsIn_2 rfl (lv_at hl 0 rfl) ?_
      refine x_bipush hx hb dX5_signsIn_3 (by decide +kernel) ?_
      refine x_icmp_ge (tgt := 42) hx hb dX5_signsIn_5 (by decide) (by omega) (by omega) (fun c_5 => ?_) (fun c_5 => ?_)
      · refine lv_iload_n hx hb dX5_signsIn_42 rfl (lv_at hl 0 rfl) ?_
        refine x_bipush hx hb dX5_signsIn_43 (by decide +kernel) ?_
        refine x_icmp_eq (tgt := 59) hx hb dX5_signsIn_45 (by decide) (by omega) (by omega) (fun c_45 => ?_) (fun c_45 => ?_)
        · refine x_iconst hx hb dX5_signsIn_59 ?_
          refine lv_goto (tgt := 64) hx hb dX5_signsIn_60 (by decide) ?_
          refine lv_istore_n (lv' := [(3, .int (zI 1)), (2, .int (zI g)), (0, .long (zL x))]) hx hb dX5_signsIn_64 rfl hl (by decide) rfl (fun ls hl => ?_)
          refine lv_iload_n hx hb dX5_signsIn_65 rfl (lv_at hl 0 rfl) ?_
          refine x_if_eq (tgt := 73) hx hb dX5_signsIn_66 (by decide) (by decide) (fun q => absurd q (by decide)) (fun _ => ?_)
          refine lv_iload_n hx hb dX5_signsIn_69 rfl (lv_at hl 1 rfl) ?_
          refine lv_goto (tgt := 74) hx hb dX5_signsIn_70 (by decide) ?_
          exact x_iretR hx hb hr hlocks (by first | (exfalso; omega) | (symm; rw [i1] at *; exact sg_end hxr i2 (by omega) (by omega)) | (symm; rw [i1] at *; exact sg_late (n := n0) hxr (by omega) (by omega) (by omega)) | (symm; have h8 : n0 = 8 := (by omega); subst h8; rw [i1]; exact sg_8 i2)) rfl dX5_signsIn_74
        · refine lv_lload_n hx hb dX5_signsIn_48 rfl (lv_at hl 1 rfl) ?_
          refine x_bipush hx hb dX5_signsIn_49 (by decide +kernel) ?_
          refine lv_iload_n hx hb dX5_signsIn_51 rfl (lv_at hl 0 rfl) ?_
          refine x_imul hx hb dX5_signsIn_52 ?_
          refine x_lushr (k := g) hx hb (by omega) dX5_signsIn_53 ?_
          refine x_lconst (v := 0) hx hb dX5_signsIn_54 rfl ?_
          refine x_lcmp_ne (tgt := 63) hx hb dX5_signsIn_55 dX5_signsIn_56 (by decide) (by exact usr_rng hxr (by omega)) (by omega) (fun c_55 => ?_) (fun c_55 => ?_)
          · refine x_iconst hx hb dX5_signsIn_63 ?_
            refine lv_istore_n (lv' := [(3, .int (zI 0)), (2, .int (zI g)), (0, .long (zL x))]) hx hb dX5_signsIn_64 rfl hl (by decide) rfl (fun ls hl => ?_)
            refine lv_iload_n hx hb dX5_signsIn_65 rfl (lv_at hl 0 rfl) ?_
            refine x_if_eq (tgt := 73) hx hb dX5_signsIn_66 (by decide) (by decide) (fun _ => ?_) (fun q => absurd q (by decide))
            refine x_iconst hx hb dX5_signsIn_73 ?_
            exact x_iretR hx hb hr hlocks (by first | (exfalso; omega) | (symm; rw [i1] at *; exact sg_end hxr i2 (by omega) (by omega)) | (symm; rw [i1] at *; exact sg_late (n := n0) hxr (by omega) (by omega) (by omega)) | (symm; have h8 : n0 = 8 := (by omega); subst h8; rw [i1]; exact sg_8 i2)) rfl dX5_signsIn_74
          · refine x_iconst hx hb dX5_signsIn_59 ?_
            refine lv_goto (tgt := 64) hx hb dX5_signsIn_60 (by decide) ?_
            refine lv_istore_n (lv' := [(3, .int (zI 1)), (2, .int (zI g)), (0, .long (zL x))]) hx hb dX5_signsIn_64 rfl hl (by decide) rfl (fun ls hl => ?_)
            refine lv_iload_n hx hb dX5_signsIn_65 rfl (lv_at hl 0 rfl) ?_
            refine x_if_eq (tgt := 73) hx hb dX5_signsIn_66 (by decide) (by decide) (fun q => absurd q (by decide)) (fun _ => ?_)
            refine lv_iload_n hx hb dX5_signsIn_69 rfl (lv_at hl 1 rfl) ?_
            refine lv_goto (tgt := 74) hx hb dX5_signsIn_70 (by decide) ?_
            exact x_iretR hx hb hr hlocks (by first | (exfalso; omega) | (symm; rw [i1] at *; exact sg_end hxr i2 (by omega) (by omega)) | (symm; rw [i1] at *; exact sg_late (n := n0) hxr (by omega) (by omega) (by omega)) | (symm; have h8 : n0 = 8 := (by omega); subst h8; rw [i1]; exact sg_8 i2)) rfl dX5_signsIn_74
      · have hby := byS_rng x g
        refine lv_lload_n hx hb dX5_signsIn_8 rfl (lv_at hl 1 rfl) ?_
        refine lv_iload_n hx hb dX5_signsIn_9 rfl (lv_at hl 0 rfl) ?_
        refine x_callSR (As := [.long (zL x), .int (zI g)]) (rest := []) S hK (c_X5_signOf l D cs x g (by omega)) (va_cwS 2 hts gX5_signsIn_X5_signOf rfl rfl rfl (by decide +kernel) ⟨(Nat.le_of_ble_eq_true rfl), (Nat.le_of_ble_eq_true rfl)⟩) trivial rfl hl.1 (Nat.le_of_ble_eq_true rfl) dX5_signsIn_10 ⟨Nat.zero_le _, Nat.zero_le _⟩ ?_
        refine x_if_eq (tgt := 42) hx hb dX5_signsIn_13 (by decide) (by omega) (fun c_13 => ?_) (fun c_13 => ?_)
        · refine lv_iload_n hx hb dX5_signsIn_42 rfl (lv_at hl 0 rfl) ?_
          refine x_bipush hx hb dX5_signsIn_43 (by decide +kernel) ?_
          refine x_icmp_eq (tgt := 59) hx hb dX5_signsIn_45 (by decide) (by omega) (by omega) (fun c_45 => ?_) (fun c_45 => ?_)
          · refine x_iconst hx hb dX5_signsIn_59 ?_
            refine lv_goto (tgt := 64) hx hb dX5_signsIn_60 (by decide) ?_
            refine lv_istore_n (lv' := [(3, .int (zI 1)), (2, .int (zI g)), (0, .long (zL x))]) hx hb dX5_signsIn_64 rfl hl (by decide) rfl (fun ls hl => ?_)
            refine lv_iload_n hx hb dX5_signsIn_65 rfl (lv_at hl 0 rfl) ?_
            refine x_if_eq (tgt := 73) hx hb dX5_signsIn_66 (by decide) (by decide) (fun q => absurd q (by decide)) (fun _ => ?_)
            refine lv_iload_n hx hb dX5_signsIn_69 rfl (lv_at hl 1 rfl) ?_
            refine lv_goto (tgt := 74) hx hb dX5_signsIn_70 (by decide) ?_
            exact x_iretR hx hb hr hlocks (by first | (exfalso; omega) | (symm; rw [i1] at *; exact sg_end hxr i2 (by omega) (by omega)) | (symm; rw [i1] at *; exact sg_late (n := n0) hxr (by omega) (by omega) (by omega)) | (symm; have h8 : n0 = 8 := (by omega); subst h8; rw [i1]; exact sg_8 i2)) rfl dX5_signsIn_74
          · refine lv_lload_n hx hb dX5_signsIn_48 rfl (lv_at hl 1 rfl) ?_
            refine x_bipush hx hb dX5_signsIn_49 (by decide +kernel) ?_
            refine lv_iload_n hx hb dX5_signsIn_51 rfl (lv_at hl 0 rfl) ?_
            refine x_imul hx hb dX5_signsIn_52 ?_
            refine x_lushr (k := g) hx hb (by omega) dX5_signsIn_53 ?_
            refine x_lconst (v := 0) hx hb dX5_signsIn_54 rfl ?_
            refine x_lcmp_ne (tgt := 63) hx hb dX5_signsIn_55 dX5_signsIn_56 (by decide) (by exact usr_rng hxr (by omega)) (by omega) (fun c_55 => ?_) (fun c_55 => ?_)
            · refine x_iconst hx hb dX5_signsIn_63 ?_
              refine lv_istore_n (lv' := [(3, .int (zI 0)), (2, .int (zI g)), (0, .long (zL x))]) hx hb dX5_signsIn_64 rfl hl (by decide) rfl (fun ls hl => ?_)
              refine lv_iload_n hx hb dX5_signsIn_65 rfl (lv_at hl 0 rfl) ?_
              refine x_if_eq (tgt := 73) hx hb dX5_signsIn_66 (by decide) (by decide) (fun _ => ?_) (fun q => absurd q (by decide))
              refine x_iconst hx hb dX5_signsIn_73 ?_
              exact x_iretR hx hb hr hlocks (by first | (exfalso; omega) | (symm; rw [i1] at *; exact sg_end hxr i2 (by omega) (by omega)) | (symm; rw [i1] at *; exact sg_late (n := n0) hxr (by omega) (by omega) (by omega)) | (symm; have h8 : n0 = 8 := (by omega); subst h8; rw [i1]; exact sg_8 i2)) rfl dX5_signsIn_74
            · refine x_iconst hx hb dX5_signsIn_59 ?_
              refine lv_goto (tgt := 64) hx hb dX5_signsIn_60 (by decide) ?_
              refine lv_istore_n (lv' := [(3, .int (zI 1)), (2, .int (zI g)), (0, .long (zL x))]) hx hb dX5_signsIn_64 rfl hl (by decide) rfl (fun ls hl => ?_)
              refine lv_iload_n hx hb dX5_signsIn_65 rfl (lv_at hl 0 rfl) ?_
              refine x_if_eq (tgt := 73) hx hb dX5_signsIn_66 (by decide) (by decide) (fun q => absurd q (by decide)) (fun _ => ?_)
              refine lv_iload_n hx hb dX5_signsIn_69 rfl (lv_at hl 1 rfl) ?_
              refine lv_goto (tgt := 74) hx hb dX5_signsIn_70 (by decide) ?_
              exact x_iretR hx hb hr hlocks (by first | (exfalso; omega) | (symm; rw [i1] at *; exact sg_end hxr i2 (by omega) (by omega)) | (symm; rw [i1] at *; exact sg_late (n := n0) hxr (by omega) (by omega) (by omega)) | (symm; have h8 : n0 = 8 := (by omega); subst h8; rw [i1]; exact sg_8 i2)) rfl dX5_signsIn_74
        · refine lv_lload_n hx hb dX5_signsIn_16 rfl (lv_at hl 1 rfl) ?_
          refine lv_iload_n hx hb dX5_signsIn_17 rfl (lv_at hl 0 rfl) ?_
          refine x_callSR (As := [.long (zL x), .int (zI g)]) (rest := []) S hK (c_X5_signOf l D cs x g (by omega)) (va_cwS 2 hts gX5_signsIn_X5_signOf rfl rfl rfl (by decide +kernel) ⟨(Nat.le_of_ble_eq_true rfl), (Nat.le_of_ble_eq_true rfl)⟩) trivial rfl hl.1 (Nat.le_of_ble_eq_true rfl) dX5_signsIn_18 ⟨Nat.zero_le _, Nat.zero_le _⟩ ?_
          refine lv_istore_n (lv' := [(3, .int (zI (byS x g))), (2, .int (zI g)), (0, .long (zL x))]) hx hb dX5_signsIn_21 rfl hl (by decide) rfl (fun ls hl => ?_)
          refine lv_iload_n hx hb dX5_signsIn_22 rfl (lv_at hl 0 rfl) ?_
          refine x_bipush hx hb dX5_signsIn_23 (by decide +kernel) ?_
          refine x_icmp_lt (tgt := 34) hx hb dX5_signsIn_25 (by decide) (by omega) (by omega) (fun c_25 => ?_) (fun c_25 => ?_)
          · refine x_iconst hx hb dX5_signsIn_34 ?_
            exact x_iretR hx hb hr hlocks (by symm; rw [i1] at *; exact sg_bad i2 (by omega) (by omega) (by omega)) rfl dX5_signsIn_35
          · refine lv_iload_n hx hb dX5_signsIn_28 rfl (lv_at hl 0 rfl) ?_
            refine x_bipush hx hb dX5_signsIn_29 (by decide +kernel) ?_
            refine x_icmp_le (tgt := 36) hx hb dX5_signsIn_31 (by decide) (by omega) (by omega) (fun c_31 => ?_) (fun c_31 => ?_)
            · refine x_iinc (x := g) (lv' := [(2, .int (zI (g + 1))), (3, .int (zI (byS x g))), (0, .long (zL x))]) hx hb dX5_signsIn_36 hl (k := 1) rfl (by decide) rfl (fun ls hl => ?_)
              refine lv_goto (tgt := 2) hx hb dX5_signsIn_39 (by decide) ?_
              exact ih2 (g + 1) (n0 + 1) (by omega) (by omega) (by omega) (by rw [i1] at *; exact pt_good x i2.1 i2.2.1 i2.2.2 ⟨by omega, by omega⟩) ls (lv_sub hl [0, 2] rfl)
            · refine x_iconst hx hb dX5_signsIn_34 ?_
              exact x_iretR hx hb hr hlocks (by symm; rw [i1] at *; exact sg_bad i2 (by omega) (by omega) (by omega)) rfl dX5_signsIn_35
  exact lp2 (8 - (0 : Nat) + 1) 0 0 (Nat.lt_succ_self _) (by omega) (by omega) (by exact ⟨rfl, rfl, rfl⟩) ls (lv_sub hl [0, 1] rfl)
