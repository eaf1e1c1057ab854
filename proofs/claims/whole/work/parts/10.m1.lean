set_option maxHeartbeats 4000000 in
set_option maxRecDepth 100000 in
theorem c_X7_in (l : Launch) (D : va_G) (cs : Nat → ClassId) (v : Int) (lo : Int) (hi : Int) (hv : -2147483648 ≤ v ∧ v < 2147483648) (hlo : -2147483648 ≤ lo ∧ lo < 2147483648) (hhi : -2147483648 ≤ hi ∧ hi < 2147483648) : kR D cs l yX7_in wsX7_in ({ frames := 0, cells := 0, slots := 0, locals := 0 } : Room) [.int (zI v), .int (zI lo), .int (zI hi)] (fun _ => True) (some (.int (zI (if lo ≤ v ∧ v ≤ hi then 1 else 0)))) := by
  refine Met.ofW (cc := cX7_in) (maxL := 3) (ret := (some .boolean)) (by decide) rfl ?_
  intro p e s m args below meth c s₁ B hml hv
  obtain ⟨rfl, hK, -⟩ := hv
  have hx := B.exec
  have hb := B.bytes
  have hr := B.returns
  have hts := atoms_spec (ws := wsX7_in) B.pre
  have hown : s.vm.findClass RX7 = some m.cls := findClass_of_methodNamed B.named
  have hlocks := B.notSynchronized
  have S : CallFix p m c cX7_in 3 s (([.int (zI v), .int (zI lo), .int (zI hi)] : List Value)).toArray wsX7_in RX7 := ⟨hx, hb, hml, hown, hts⟩
  have hl := lv_entry ([.int (zI v), .int (zI lo), .int (zI hi)]) (n := 3) (Nat.le_of_ble_eq_true rfl)
  rw [lg_entry_eq]
  generalize (lg_sl ([.int (zI v), .int (zI lo), .int (zI hi)]) ++ List.replicate (3 - (lg_sl ([.int (zI v), .int (zI lo), .int (zI hi)])).length) Slot.unset).toArray = ls at hl ⊢
  have hl : lv_has ls 3 [(0, .int (zI v)), (1, .int (zI lo)), (2, .int (zI hi))] := hl
  refine lv_iload_n hx hb dX7_in_0 rfl (lv_at hl 0 rfl) ?_
  refine lv_iload_n hx hb dX7_in_1 rfl (lv_at hl 1 rfl) ?_
  refine x_icmp_lt (tgt := 14) hx hb dX7_in_2 (by decide) (by omega) (by omega) (fun c_2 => ?_) (fun c_2 => ?_)
  · refine x_iconst hx hb dX7_in_14 ?_
    exact x_zretR hx hb hr hlocks (by first | (rw [if_pos (by omega)]) | (rw [if_neg (by omega)])) (by first | decide | exact Or.inl rfl | exact Or.inr rfl | (split <;> simp)) rfl dX7_in_15
  · refine lv_iload_n hx hb dX7_in_5 rfl (lv_at hl 0 rfl) ?_
    refine lv_iload_n hx hb dX7_in_6 rfl (lv_at hl 2 rfl) ?_
    refine x_icmp_gt (tgt := 14) hx hb dX7_in_7 (by decide) (by omega) (by omega) (fun c_7 => ?_) (fun c_7 => ?_)
    · refine x_iconst hx hb dX7_in_14 ?_
      exact x_zretR hx hb hr hlocks (by first | (rw [if_pos (by omega)]) | (rw [if_neg (by omega)])) (by first | decide | exact Or.inl rfl | exact Or.inr rfl | (split <;> simp)) rfl dX7_in_15
    · refine x_iconst hx hb dX7_in_10 ?_
      refine lv_goto (tgt := 15) hx hb dX7_in_11 (by decide) ?_
      exact x_zretR hx hb hr hlocks (by first | (rw [if_pos (by omega)]) | (rw [if_neg (by omega)])) (by first | decide | exact Or.inl rfl | exact Or.inr rfl | (split <;> simp)) rfl dX7_in_15
set_option maxHeartbeats 4000000 in
set_option maxRecDepth 100000 in
theorem c_X7_num (l : Launch) (D : va_G) (cs : Nat → ClassId) (a : Int → Nat) (σ : Int → Int) (pa : Int → Int) (sl : Int → Int) (sv : Int → Int) (pd : Int → Int) (kn : Int) (ln : Int) (w : Int) (hw : 0 ≤ w ∧ w < 276) : kR D cs l yX7_num wsX7_num ({ frames := 0, cells := 0, slots := 0, locals := 0 } : Room) [.ref (a 0), .int (zI w)] (fun H => mAt D cs a σ pa sl sv pd kn ln H) (some (.int (zI (σ w)))) := by
  refine Met.ofW (cc := cX7_num) (maxL := 2) (ret := (some .int)) (by decide) rfl ?_
  intro p e s m args below meth c s₁ B hml hv
  obtain ⟨rfl, hK, hM⟩ := hv
  have hx := B.exec
  have hb := B.bytes
  have hr := B.returns
  have hts := atoms_spec (ws := wsX7_num) B.pre
  have hown : s.vm.findClass RX7 = some m.cls := findClass_of_methodNamed B.named
  have hlocks := B.notSynchronized
  have S : CallFix p m c cX7_num 2 s (([.ref (a 0), .int (zI w)] : List Value)).toArray wsX7_num RX7 := ⟨hx, hb, hml, hown, hts⟩
  have hin7 : ∀ w ∈ wsX70, w ∈ wsX7_num := by decide +kernel
  have hl := lv_entry ([.ref (a 0), .int (zI w)]) (n := 2) (Nat.le_of_ble_eq_true rfl)
  rw [lg_entry_eq]
  generalize (lg_sl ([.ref (a 0), .int (zI w)]) ++ List.replicate (2 - (lg_sl ([.ref (a 0), .int (zI w)])).length) Slot.unset).toArray = ls at hl ⊢
  have hl : lv_has ls 2 [(0, .ref (a 0)), (1, .int (zI w))] := hl
  refine lv_aload_n hx hb dX7_num_0 rfl (lv_at hl 0 rfl) ?_
  refine m_g_s S hin7 hK hM (hts (.fieldLink RX7 7 "EnergyDiscsModel" "s" "[J") (by decide +kernel)) dX7_num_1 ?_
  refine lv_iload_n hx hb dX7_num_4 rfl (lv_at hl 1 rfl) ?_
  refine m_l_s S hK hM (by omega) dX7_num_5 ?_
  refine x_l2i hx hb dX7_num_6 ?_
  exact x_iretR hx hb hr hlocks (by first | rfl | omega) rfl dX7_num_7
set_option maxHeartbeats 4000000 in
set_option maxRecDepth 100000 in
theorem c_X7_isMeter (l : Launch) (D : va_G) (cs : Nat → ClassId) (a : Int → Nat) (σ : Int → Int) (pa : Int → Int) (sl : Int → Int) (sv : Int → Int) (pd : Int → Int) (kn : Int) (ln : Int) (k : Int) (h7 : 0 ≤ σ 7 ∧ σ 7 ≤ 7) (hk : -2147483648 ≤ k ∧ k < 2147483648) : kR D cs l yX7_isMeter wsX7_isMeter ({ frames := 1, cells := 0, slots := 0, locals := 22 } : Room) [.ref (a 0), .int (zI k)] (fun H => mAt D cs a σ pa sl sv pd kn ln H) (some (.int (zI (if 0 ≤ k ∧ k < σ 7 then 1 else 0)))) := by
  refine Met.ofW (cc := cX7_isMeter) (maxL := 2) (ret := (some .boolean)) (by decide) rfl ?_
  intro p e s m args below meth c s₁ B hml hv
  obtain ⟨rfl, hK, hM⟩ := hv
  have hx := B.exec
  have hb := B.bytes
  have hr := B.returns
  have hts := atoms_spec (ws := wsX7_isMeter) B.pre
  have hown : s.vm.findClass RX7 = some m.cls := findClass_of_methodNamed B.named
  have hlocks := B.notSynchronized
  have S : CallFix p m c cX7_isMeter 2 s (([.ref (a 0), .int (zI k)] : List Value)).toArray wsX7_isMeter RX7 := ⟨hx, hb, hml, hown, hts⟩
  have hl := lv_entry ([.ref (a 0), .int (zI k)]) (n := 2) (Nat.le_of_ble_eq_true rfl)
  rw [lg_entry_eq]
  generalize (lg_sl ([.ref (a 0), .int (zI k)]) ++ List.replicate (2 - (lg_sl ([.ref (a 0), .int (zI k)])).length) Slot.unset).toArray = ls at hl ⊢
  have hl : lv_has ls 2 [(0, .ref (a 0)), (1, .int (zI k))] := hl
  refine lv_iload_n hx hb dX7_isMeter_0 rfl (lv_at hl 1 rfl) ?_
  refine x_iconst hx hb dX7_isMeter_1 ?_
  refine lv_aload_n hx hb dX7_isMeter_2 rfl (lv_at hl 0 rfl) ?_
  refine x_bipush hx hb dX7_isMeter_3 (by decide +kernel) ?_
  refine x_callVR (As := [.int (zI 7)]) (rest := [.int (zI 0), .int (zI k)]) S hK (c_X7_num l D cs a σ pa sl sv pd kn ln 7 (by omega)) (cwV 1 hts gX7_isMeter_X7_num rfl rfl rfl (by decide +kernel) ⟨(Nat.le_of_ble_eq_true rfl), (Nat.le_of_ble_eq_true rfl)⟩) (x_rc hK (mAt_0 hM) rfl) hM rfl hl.1 (Nat.le_of_ble_eq_true rfl) dX7_isMeter_5 ⟨Nat.zero_le _, Nat.zero_le _⟩ ?_
  refine x_iconst hx hb dX7_isMeter_8 ?_
  refine x_isub hx hb dX7_isMeter_9 ?_
  refine x_callSR (As := [.int (zI k), .int (zI 0), .int (zI ((σ 7) - 1))]) (rest := []) S hK (c_X7_in l D cs k 0 ((σ 7) - 1) (by omega) (by omega) (by omega)) (va_cwS 3 hts gX7_isMeter_X7_in rfl rfl rfl (by decide +kernel) ⟨(Nat.le_of_ble_eq_true rfl), (Nat.le_of_ble_eq_true rfl)⟩) trivial rfl hl.1 (Nat.le_of_ble_eq_true rfl) dX7_isMeter_10 ⟨Nat.zero_le _, Nat.zero_le _⟩ ?_
  exact x_zretR hx hb hr hlocks (by by_cases h : 0 ≤ k ∧ k < σ 7 <;> simp [h] <;> omega) (by first | decide | exact Or.inl rfl | exact Or.inr rfl | (split <;> simp)) rfl dX7_isMeter_13
set_option maxHeartbeats 4000000 in
set_option maxRecDepth 100000 in
theorem c_X7_at (l : Launch) (D : va_G) (cs : Nat → ClassId) (q : Int) (k : Int)  : kR D cs l yX7_at wsX7_at ({ frames := 0, cells := 0, slots := 0, locals := 0 } : Room) [.int (zI q), .int (zI k)] (fun _ => True) (some (.int (zI (q + 11 + 13 * k)))) := by
  refine Met.ofW (cc := cX7_at) (maxL := 2) (ret := (some .int)) (by decide) rfl ?_
  intro p e s m args below meth c s₁ B hml hv
  obtain ⟨rfl, hK, -⟩ := hv
  have hx := B.exec
  have hb := B.bytes
  have hr := B.returns
  have hts := atoms_spec (ws := wsX7_at) B.pre
  have hown : s.vm.findClass RX7 = some m.cls := findClass_of_methodNamed B.named
  have hlocks := B.notSynchronized
  have S : CallFix p m c cX7_at 2 s (([.int (zI q), .int (zI k)] : List Value)).toArray wsX7_at RX7 := ⟨hx, hb, hml, hown, hts⟩
  have hl := lv_entry ([.int (zI q), .int (zI k)]) (n := 2) (Nat.le_of_ble_eq_true rfl)
  rw [lg_entry_eq]
  generalize (lg_sl ([.int (zI q), .int (zI k)]) ++ List.replicate (2 - (lg_sl ([.int (zI q), .int (zI k)])).length) Slot.unset).toArray = ls at hl ⊢
  have hl : lv_has ls 2 [(0, .int (zI q)), (1, .int (zI k))] := hl
  refine lv_iload_n hx hb dX7_at_0 rfl (lv_at hl 0 rfl) ?_
  refine x_bipush hx hb dX7_at_1 (by decide +kernel) ?_
  refine x_iadd hx hb dX7_at_3 ?_
  refine x_bipush hx hb dX7_at_4 (by decide +kernel) ?_
  refine lv_iload_n hx hb dX7_at_6 rfl (lv_at hl 1 rfl) ?_
  refine x_imul hx hb dX7_at_7 ?_
  refine x_iadd hx hb dX7_at_8 ?_
  exact x_iretR hx hb hr hlocks (by first | rfl | omega) rfl dX7_at_9
set_option maxHeartbeats 4000000 in
set_option maxRecDepth 100000 in
theorem c_X7_its (l : Launch) (D : va_G) (cs : Nat → ClassId) (a : Int → Nat) (σ : Int → Int) (pa : Int → Int) (sl : Int → Int) (sv : Int → Int) (pd : Int → Int) (kn : Int) (ln : Int) (k : Int) (w : Int) (hk : 0 ≤ k ∧ k < 7) (hw : 0 ≤ w ∧ w < 13) : kR D cs l yX7_its wsX7_its ({ frames := 1, cells := 0, slots := 0, locals := 21 } : Room) [.ref (a 0), .int (zI k), .int (zI w)] (fun H => mAt D cs a σ pa sl sv pd kn ln H) (some (.int (zI (σ (11 + 13 * k + w))))) := by
  refine Met.ofW (cc := cX7_its) (maxL := 3) (ret := (some .int)) (by decide) rfl ?_
  intro p e s m args below meth c s₁ B hml hv
  obtain ⟨rfl, hK, hM⟩ := hv
  have hx := B.exec
  have hb := B.bytes
  have hr := B.returns
  have hts := atoms_spec (ws := wsX7_its) B.pre
  have hown : s.vm.findClass RX7 = some m.cls := findClass_of_methodNamed B.named
  have hlocks := B.notSynchronized
  have S : CallFix p m c cX7_its 3 s (([.ref (a 0), .int (zI k), .int (zI w)] : List Value)).toArray wsX7_its RX7 := ⟨hx, hb, hml, hown, hts⟩
  have hin7 : ∀ w ∈ wsX70, w ∈ wsX7_its := by decide +kernel
  have hl := lv_entry ([.ref (a 0), .int (zI k), .int (zI w)]) (n := 3) (Nat.le_of_ble_eq_true rfl)
  rw [lg_entry_eq]
  generalize (lg_sl ([.ref (a 0), .int (zI k), .int (zI w)]) ++ List.replicate (3 - (lg_sl ([.ref (a 0), .int (zI k), .int (zI w)])).length) Slot.unset).toArray = ls at hl ⊢
  have hl : lv_has ls 3 [(0, .ref (a 0)), (1, .int (zI k)), (2, .int (zI w))] := hl
  refine lv_aload_n hx hb dX7_its_0 rfl (lv_at hl 0 rfl) ?_
  refine m_g_s S hin7 hK hM (hts (.fieldLink RX7 7 "EnergyDiscsModel" "s" "[J") (by decide +kernel)) dX7_its_1 ?_
  refine x_iconst hx hb dX7_its_4 ?_
  refine lv_iload_n hx hb dX7_its_5 rfl (lv_at hl 1 rfl) ?_
  refine x_callSR (As := [.int (zI 0), .int (zI k)]) (rest := [.ref (a 1)]) S hK (c_X7_at l D cs 0 k ) (va_cwS 2 hts gX7_its_X7_at rfl rfl rfl (by decide +kernel) ⟨(Nat.le_of_ble_eq_true rfl), (Nat.le_of_ble_eq_true rfl)⟩) trivial rfl hl.1 (Nat.le_of_ble_eq_true rfl) dX7_its_6 ⟨Nat.zero_le _, Nat.zero_le _⟩ ?_
  refine lv_iload_n hx hb dX7_its_9 rfl (lv_at hl 2 rfl) ?_
  refine x_iadd hx hb dX7_its_10 ?_
  refine m_l_s S hK hM (by omega) dX7_its_11 ?_
  refine x_l2i hx hb dX7_its_12 ?_
  exact x_iretR hx hb hr hlocks (by exact congrArg σ (by omega)) rfl dX7_its_13
