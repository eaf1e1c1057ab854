set_option maxHeartbeats 4000000 in
set_option maxRecDepth 100000 in
theorem c_X7_isThrough (l : Launch) (D : va_G) (cs : Nat → ClassId) (a : Int → Nat) (σ : Int → Int) (pa : Int → Int) (sl : Int → Int) (sv : Int → Int) (pd : Int → Int) (kn : Int) (ln : Int) (k : Int) (o : Int) (hL : lOK σ) (hk : 0 ≤ k ∧ k < σ 7) (ho : 0 ≤ o ∧ o < 2147483648) : kR D cs l yX7_isThrough wsX7_isThrough ({ frames := 2, cells := 0, slots := 0, locals := 43 } : Room) [.ref (a 0), .int (zI k), .int (zI o)] (fun H => mAt D cs a σ pa sl sv pd kn ln H) (some (.int (zI (if climb σ o 7 k = o then 1 else 0)))) := by
  refine Met.ofW (cc := cX7_isThrough) (maxL := 4) (ret := (some .boolean)) (by decide) rfl ?_
  intro p e s m args below meth c s₁ B hml hv
  obtain ⟨rfl, hK, hM⟩ := hv
  have hx := B.exec
  have hb := B.bytes
  have hr := B.returns
  have hts := atoms_spec (ws := wsX7_isThrough) B.pre
  have hown : s.vm.findClass RX7 = some m.cls := findClass_of_methodNamed B.named
  have hlocks := B.notSynchronized
  have S : CallFix p m c cX7_isThrough 4 s (([.ref (a 0), .int (zI k), .int (zI o)] : List Value)).toArray wsX7_isThrough RX7 := ⟨hx, hb, hml, hown, hts⟩
  have hl := lv_entry ([.ref (a 0), .int (zI k), .int (zI o)]) (n := 4) (Nat.le_of_ble_eq_true rfl)
  rw [lg_entry_eq]
  generalize (lg_sl ([.ref (a 0), .int (zI k), .int (zI o)]) ++ List.replicate (4 - (lg_sl ([.ref (a 0), .int (zI k), .int (zI o)])).length) Slot.unset).toArray = ls at hl ⊢
  have hl : lv_has ls 4 [(0, .ref (a 0)), (1, .int (zI k)), (2, .int (zI o))] := hl
  have h7 := hL.1
  refine lv_iload_n hx hb dX7_isThrough_0 rfl (lv_at hl 1 rfl) ?_
  refine lv_istore_n (lv' := [(3, .int (zI k)), (0, .ref (a 0)), (1, .int (zI k)), (2, .int (zI o))]) hx hb dX7_isThrough_1 rfl hl (by decide) rfl (fun ls hl => ?_)
  have lp2 : ∀ (n : Nat) (j : Int) (f : Nat), j.toNat < n → 0 ≤ j ∧ j < σ 7 → j ≤ (f : Int) → climb σ o f j = climb σ o 7 k → ∀ (ls : Array Slot), lv_has ls 4 [(3, .int (zI j)), (0, .ref (a 0)), (1, .int (zI k)), (2, .int (zI o))] → W p l e (headSpec wsX7_isThrough ({ frames := 2, cells := 0, slots := 0, locals := 43 } : Room)).room s m ([.ref (a 0), .int (zI k), .int (zI o)] : List Value).toArray below meth c s.heap [] 0 0 (MQ below (kS (some (.int (zI (if climb σ o 7 k = o then 1 else 0))))) ([.ref (a 0), .int (zI k), .int (zI o)] : List Value).toArray s 0 0 (fun _ => False)) (F0 m 2 ls []) := by
    intro n
    induction n with
    | zero => intro j f hms; exact absurd hms (Nat.not_lt_zero _)
    | succ n ih =>
      intro j f hms hj hf hc ls hl
      have ih2 := ih
      clear ih
      refine lv_iload_n hx hb dX7_isThrough_2 rfl (lv_at hl 0 rfl) ?_
      refine lv_iload_n hx hb dX7_isThrough_3 rfl (lv_at hl 3 rfl) ?_
      refine x_icmp_le (tgt := 17) hx hb dX7_isThrough_4 (by decide) (by omega) (by omega) (fun c_4 => ?_) (fun c_4 => ?_)
      · refine lv_iload_n hx hb dX7_isThrough_17 rfl (lv_at hl 0 rfl) ?_
        refine lv_iload_n hx hb dX7_isThrough_18 rfl (lv_at hl 3 rfl) ?_
        refine x_icmp_ne (tgt := 26) hx hb dX7_isThrough_19 (by decide) (by omega) (by omega) (fun c_19 => ?_) (fun c_19 => ?_)
        · refine x_iconst hx hb dX7_isThrough_26 ?_
          exact x_zretR hx hb hr hlocks (by rw [← hc, climb_stop (by omega)]; first | (rw [if_pos (by omega)]) | (rw [if_neg (by omega)])) (by first | decide | exact Or.inl rfl | exact Or.inr rfl | (split <;> simp)) rfl dX7_isThrough_27
        · refine x_iconst hx hb dX7_isThrough_22 ?_
          refine lv_goto (tgt := 27) hx hb dX7_isThrough_23 (by decide) ?_
          exact x_zretR hx hb hr hlocks (by rw [← hc, climb_stop (by omega)]; first | (rw [if_pos (by omega)]) | (rw [if_neg (by omega)])) (by first | decide | exact Or.inl rfl | exact Or.inr rfl | (split <;> simp)) rfl dX7_isThrough_27
      · refine lv_aload_n hx hb dX7_isThrough_7 rfl (lv_at hl 1 rfl) ?_
        refine lv_iload_n hx hb dX7_isThrough_8 rfl (lv_at hl 0 rfl) ?_
        refine x_iconst hx hb dX7_isThrough_9 ?_
        refine x_callVR (As := [.int (zI j), .int (zI 0)]) (rest := []) S hK (c_X7_its l D cs a σ pa sl sv pd kn ln j 0 (by omega) (by omega)) (cwV 2 hts gX7_isThrough_X7_its rfl rfl rfl (by decide +kernel) ⟨(Nat.le_of_ble_eq_true rfl), (Nat.le_of_ble_eq_true rfl)⟩) (x_rc hK (mAt_0 hM) rfl) hM rfl hl.1 (Nat.le_of_ble_eq_true rfl) dX7_isThrough_10 ⟨Nat.zero_le _, Nat.zero_le _⟩ ?_
        refine lv_istore_n (lv' := [(3, .int (zI (σ (11 + 13 * j + 0)))), (0, .ref (a 0)), (1, .int (zI k)), (2, .int (zI o))]) hx hb dX7_isThrough_13 rfl hl (by decide) rfl (fun ls hl => ?_)
        refine lv_goto (tgt := 2) hx hb dX7_isThrough_14 (by decide) ?_
        exact ih2 (σ (11 + 13 * j + 0)) (f - 1) (by have := hL.2.2.1 j (by omega) hj.2; rw [Int.add_zero]; omega) (by have := hL.2.2.1 j (by omega) hj.2; rw [Int.add_zero]; omega) (by have := hL.2.2.1 j (by omega) hj.2; rw [Int.add_zero]; omega) (by rw [Int.add_zero, ← hc]; obtain ⟨g, rfl⟩ : ∃ g, f = g + 1 := ⟨f - 1, by omega⟩; rw [climb_go (by omega)]; rfl) ls (lv_sub hl [0, 1, 2, 3] rfl)
  exact lp2 (k.toNat + 1) k 7 (Nat.lt_succ_self _) (by omega) (by omega) (by rfl) ls (lv_sub hl [0, 1, 2, 3] rfl)
set_option maxHeartbeats 4000000 in
set_option maxRecDepth 100000 in
theorem c_X7_power (l : Launch) (D : va_G) (cs : Nat → ClassId) (a : Int → Nat) (σ : Int → Int) (pa : Int → Int) (sl : Int → Int) (sv : Int → Int) (pd : Int → Int) (kn : Int) (ln : Int) (o : Int) (hL : lOK σ) (ho : 0 ≤ o ∧ o < σ 7) : kR D cs l yX7_power wsX7_power ({ frames := 3, cells := 0, slots := 0, locals := 66 } : Room) [.ref (a 0), .int (zI o)] (fun H => mAt D cs a σ pa sl sv pd kn ln H) (some (.int (zI (pwr σ o)))) := by
  refine Met.ofW (cc := cX7_power) (maxL := 5) (ret := (some .int)) (by decide) rfl ?_
  intro p e s m args below meth c s₁ B hml hv
  obtain ⟨rfl, hK, hM⟩ := hv
  have hx := B.exec
  have hb := B.bytes
  have hr := B.returns
  have hts := atoms_spec (ws := wsX7_power) B.pre
  have hown : s.vm.findClass RX7 = some m.cls := findClass_of_methodNamed B.named
  have hlocks := B.notSynchronized
  have S : CallFix p m c cX7_power 5 s (([.ref (a 0), .int (zI o)] : List Value)).toArray wsX7_power RX7 := ⟨hx, hb, hml, hown, hts⟩
  have hin7 : ∀ w ∈ wsX70, w ∈ wsX7_power := by decide +kernel
  have hl := lv_entry ([.ref (a 0), .int (zI o)]) (n := 5) (Nat.le_of_ble_eq_true rfl)
  rw [lg_entry_eq]
  generalize (lg_sl ([.ref (a 0), .int (zI o)]) ++ List.replicate (5 - (lg_sl ([.ref (a 0), .int (zI o)])).length) Slot.unset).toArray = ls at hl ⊢
  have hl : lv_has ls 5 [(0, .ref (a 0)), (1, .int (zI o))] := hl
  have h7 := hL.1
  have h8 := hL.2.1
  refine x_iconst hx hb dX7_power_0 ?_
  refine lv_istore_n (lv' := [(2, .int (zI 0)), (0, .ref (a 0)), (1, .int (zI o))]) hx hb dX7_power_1 rfl hl (by decide) rfl (fun ls hl => ?_)
  refine x_iconst hx hb dX7_power_2 ?_
  refine lv_istore_n (lv' := [(3, .int (zI 0)), (2, .int (zI 0)), (0, .ref (a 0)), (1, .int (zI o))]) hx hb dX7_power_3 rfl hl (by decide) rfl (fun ls hl => ?_)
  have lp4 : ∀ (n : Nat) (j : Int) (acc : Int) (n0 : Nat), (σ 8 - j).toNat < n → 0 ≤ j ∧ j ≤ σ 8 → j = (n0 : Int) → acc = psum σ o n0 → ∀ (ls : Array Slot), lv_has ls 5 [(3, .int (zI j)), (2, .int (zI acc)), (0, .ref (a 0)), (1, .int (zI o))] → W p l e (headSpec wsX7_power ({ frames := 3, cells := 0, slots := 0, locals := 66 } : Room)).room s m ([.ref (a 0), .int (zI o)] : List Value).toArray below meth c s.heap [] 0 0 (MQ below (kS (some (.int (zI (pwr σ o))))) ([.ref (a 0), .int (zI o)] : List Value).toArray s 0 0 (fun _ => False)) (F0 m 4 ls []) := by
    intro n
    induction n with
    | zero => intro j acc n0 hms; exact absurd hms (Nat.not_lt_zero _)
    | succ n ih =>
      intro j acc n0 hms hj hn ha ls hl
      have ih4 := ih
      clear ih
      refine lv_iload_n hx hb dX7_power_4 rfl (lv_at hl 0 rfl) ?_
      refine lv_aload_n hx hb dX7_power_5 rfl (lv_at hl 2 rfl) ?_
      refine x_bipush hx hb dX7_power_6 (by decide +kernel) ?_
      refine x_callVR (As := [.int (zI 8)]) (rest := [.int (zI j)]) S hK (c_X7_num l D cs a σ pa sl sv pd kn ln 8 (by omega)) (cwV 1 hts gX7_power_X7_num rfl rfl rfl (by decide +kernel) ⟨(Nat.le_of_ble_eq_true rfl), (Nat.le_of_ble_eq_true rfl)⟩) (x_rc hK (mAt_0 hM) rfl) hM rfl hl.1 (Nat.le_of_ble_eq_true rfl) dX7_power_8 ⟨Nat.zero_le _, Nat.zero_le _⟩ ?_
      refine x_icmp_ge (tgt := 91) hx hb dX7_power_11 (by decide) (by omega) (by omega) (fun c_11 => ?_) (fun c_11 => ?_)
      · refine lv_iload_n hx hb dX7_power_91 rfl (lv_at hl 1 rfl) ?_
        exact x_iretR hx hb hr hlocks (by rw [ha]; unfold pwr; congr 1; omega) rfl dX7_power_92
      · have hld := hL.2.2.2 j (by omega) (by omega)
        refine lv_aload_n hx hb dX7_power_14 rfl (lv_at hl 2 rfl) ?_
        refine m_g_s S hin7 hK hM (hts (.fieldLink RX7 7 "EnergyDiscsModel" "s" "[J") (by decide +kernel)) dX7_power_15 ?_
        refine x_bipush hx hb dX7_power_18 (by decide +kernel) ?_
        refine x_iconst hx hb dX7_power_20 ?_
        refine lv_iload_n hx hb dX7_power_21 rfl (lv_at hl 0 rfl) ?_
        refine x_imul hx hb dX7_power_22 ?_
        refine x_iadd hx hb dX7_power_23 ?_
        refine x_iconst hx hb dX7_power_24 ?_
        refine x_iadd hx hb dX7_power_25 ?_
        refine m_l_s S hK hM (by omega) dX7_power_26 ?_
        refine x_lconst (v := 1) hx hb dX7_power_27 rfl ?_
        refine x_lcmp_ne (tgt := 56) hx hb dX7_power_28 dX7_power_29 (by decide) (by omega) (by omega) (fun c_28 => ?_) (fun c_28 => ?_)
        · refine x_iconst hx hb dX7_power_56 ?_
          refine lv_istore (lv' := [(4, .int (zI 0)), (3, .int (zI j)), (2, .int (zI acc)), (0, .ref (a 0)), (1, .int (zI o))]) hx hb dX7_power_57 hl (by decide) rfl (fun ls hl => ?_)
          refine lv_iload_n hx hb dX7_power_59 rfl (lv_at hl 2 rfl) ?_
          refine lv_iload hx hb dX7_power_60 (lv_at hl 0 rfl) ?_
          refine x_if_eq (tgt := 82) hx hb dX7_power_62 (by decide) (by decide) (fun _ => ?_) (fun q => absurd q (by decide))
          refine x_iconst hx hb dX7_power_82 ?_
          refine x_iadd hx hb dX7_power_83 ?_
          refine lv_istore_n (lv' := [(2, .int (zI (acc + 0))), (4, .int (zI 0)), (3, .int (zI j)), (0, .ref (a 0)), (1, .int (zI o))]) hx hb dX7_power_84 rfl hl (by decide) rfl (fun ls hl => ?_)
          refine x_iinc (x := j) (lv' := [(3, .int (zI (j + 1))), (2, .int (zI (acc + 0))), (4, .int (zI 0)), (0, .ref (a 0)), (1, .int (zI o))]) hx hb dX7_power_85 hl (k := 2) rfl (by decide) rfl (fun ls hl => ?_)
          refine lv_goto (tgt := 4) hx hb dX7_power_88 (by decide) ?_
          exact ih4 (j + 1) (acc + 0) (n0 + 1) (by omega) (by omega) (by omega) (by rw [ha]; subst hn; first | (rw [psum_y] <;> assumption) | (rw [psum_n]; intro q; first | exact c_28 q.1 | exact c_49 q.2)) ls (lv_sub hl [0, 1, 3, 4] rfl)
        · refine lv_aload_n hx hb dX7_power_32 rfl (lv_at hl 2 rfl) ?_
          refine lv_aload_n hx hb dX7_power_33 rfl (lv_at hl 2 rfl) ?_
          refine m_g_s S hin7 hK hM (hts (.fieldLink RX7 7 "EnergyDiscsModel" "s" "[J") (by decide +kernel)) dX7_power_34 ?_
          refine x_bipush hx hb dX7_power_37 (by decide +kernel) ?_
          refine x_iconst hx hb dX7_power_39 ?_
          refine lv_iload_n hx hb dX7_power_40 rfl (lv_at hl 0 rfl) ?_
          refine x_imul hx hb dX7_power_41 ?_
          refine x_iadd hx hb dX7_power_42 ?_
          refine m_l_s S hK hM (by omega) dX7_power_43 ?_
          refine x_l2i hx hb dX7_power_44 ?_
          refine lv_iload_n hx hb dX7_power_45 rfl (lv_at hl 3 rfl) ?_
          refine x_callVR (As := [.int (zI (σ (102 + (3 * j)))), .int (zI o)]) (rest := []) S hK (c_X7_isThrough l D cs a σ pa sl sv pd kn ln (σ (102 + (3 * j))) o (by omega) (by omega) (by omega)) (cwV 2 hts gX7_power_X7_isThrough rfl rfl rfl (by decide +kernel) ⟨(Nat.le_of_ble_eq_true rfl), (Nat.le_of_ble_eq_true rfl)⟩) (x_rc hK (mAt_0 hM) rfl) hM rfl hl.1 (Nat.le_of_ble_eq_true rfl) dX7_power_46 ⟨Nat.zero_le _, Nat.zero_le _⟩ ?_
          refine x_ifb_eq (tgt := 56) hx hb dX7_power_49 (by decide)  (fun c_49 => ?_) (fun c_49 => ?_)
          · refine x_iconst hx hb dX7_power_56 ?_
            refine lv_istore (lv' := [(4, .int (zI 0)), (3, .int (zI j)), (2, .int (zI acc)), (0, .ref (a 0)), (1, .int (zI o))]) hx hb dX7_power_57 hl (by decide) rfl (fun ls hl => ?_)
            refine lv_iload_n hx hb dX7_power_59 rfl (lv_at hl 2 rfl) ?_
            refine lv_iload hx hb dX7_power_60 (lv_at hl 0 rfl) ?_
            refine x_if_eq (tgt := 82) hx hb dX7_power_62 (by decide) (by decide) (fun _ => ?_) (fun q => absurd q (by decide))
            refine x_iconst hx hb dX7_power_82 ?_
            refine x_iadd hx hb dX7_power_83 ?_
            refine lv_istore_n (lv' := [(2, .int (zI (acc + 0))), (4, .int (zI 0)), (3, .int (zI j)), (0, .ref (a 0)), (1, .int (zI o))]) hx hb dX7_power_84 rfl hl (by decide) rfl (fun ls hl => ?_)
            refine x_iinc (x := j) (lv' := [(3, .int (zI (j + 1))), (2, .int (zI (acc + 0))), (4, .int (zI 0)), (0, .ref (a 0)), (1, .int (zI o))]) hx hb dX7_power_85 hl (k := 2) rfl (by decide) rfl (fun ls hl => ?_)
            refine lv_goto (tgt := 4) hx hb dX7_power_88 (by decide) ?_
            exact ih4 (j + 1) (acc + 0) (n0 + 1) (by omega) (by omega) (by omega) (by rw [ha]; subst hn; first | (rw [psum_y] <;> assumption) | (rw [psum_n]; intro q; first | exact c_28 q.1 | exact c_49 q.2)) ls (lv_sub hl [0, 1, 3, 4] rfl)
          · refine x_iconst hx hb dX7_power_52 ?_
            refine lv_goto (tgt := 57) hx hb dX7_power_53 (by decide) ?_
            refine lv_istore (lv' := [(4, .int (zI 1)), (3, .int (zI j)), (2, .int (zI acc)), (0, .ref (a 0)), (1, .int (zI o))]) hx hb dX7_power_57 hl (by decide) rfl (fun ls hl => ?_)
            refine lv_iload_n hx hb dX7_power_59 rfl (lv_at hl 2 rfl) ?_
            refine lv_iload hx hb dX7_power_60 (lv_at hl 0 rfl) ?_
            refine x_if_eq (tgt := 82) hx hb dX7_power_62 (by decide) (by decide) (fun q => absurd q (by decide)) (fun _ => ?_)
            refine lv_aload_n hx hb dX7_power_65 rfl (lv_at hl 3 rfl) ?_
            refine m_g_s S hin7 hK hM (hts (.fieldLink RX7 7 "EnergyDiscsModel" "s" "[J") (by decide +kernel)) dX7_power_66 ?_
            refine x_bipush hx hb dX7_power_69 (by decide +kernel) ?_
            refine x_iconst hx hb dX7_power_71 ?_
            refine lv_iload_n hx hb dX7_power_72 rfl (lv_at hl 1 rfl) ?_
            refine x_imul hx hb dX7_power_73 ?_
            refine x_iadd hx hb dX7_power_74 ?_
            refine x_iconst hx hb dX7_power_75 ?_
            refine x_iadd hx hb dX7_power_76 ?_
            refine m_l_s S hK hM (by omega) dX7_power_77 ?_
            refine x_l2i hx hb dX7_power_78 ?_
            refine lv_goto (tgt := 83) hx hb dX7_power_79 (by decide) ?_
            refine x_iadd hx hb dX7_power_83 ?_
            refine lv_istore_n (lv' := [(2, .int (zI (acc + (σ ((102 + (3 * j)) + 1))))), (4, .int (zI 1)), (3, .int (zI j)), (0, .ref (a 0)), (1, .int (zI o))]) hx hb dX7_power_84 rfl hl (by decide) rfl (fun ls hl => ?_)
            refine x_iinc (x := j) (lv' := [(3, .int (zI (j + 1))), (2, .int (zI (acc + (σ ((102 + (3 * j)) + 1))))), (4, .int (zI 1)), (0, .ref (a 0)), (1, .int (zI o))]) hx hb dX7_power_85 hl (k := 2) rfl (by decide) rfl (fun ls hl => ?_)
            refine lv_goto (tgt := 4) hx hb dX7_power_88 (by decide) ?_
            exact ih4 (j + 1) (acc + (σ ((102 + (3 * j)) + 1))) (n0 + 1) (by omega) (by omega) (by omega) (by rw [ha]; subst hn; first | (rw [psum_y] <;> assumption) | (rw [psum_n]; intro q; first | exact c_28 q.1 | exact c_49 q.2)) ls (lv_sub hl [0, 1, 3, 4] rfl)
  exact lp4 ((σ 8 - 0).toNat + 1) 0 0 0 (Nat.lt_succ_self _) (by omega) (by omega) (by rfl) ls (lv_sub hl [0, 1, 2, 3] rfl)
set_option maxHeartbeats 4000000 in
set_option maxRecDepth 100000 in
theorem c_X7_isNight (l : Launch) (D : va_G) (cs : Nat → ClassId) (tm : Int) (ht : 0 ≤ tm ∧ tm < 9223372036854775808) : kR D cs l yX7_isNight wsX7_isNight ({ frames := 0, cells := 0, slots := 0, locals := 0 } : Room) [.long (zL tm)] (fun _ => True) (some (.int (zI (if 1320 ≤ tm % 1440 ∨ tm % 1440 < 360 then 1 else 0)))) := by
  refine Met.ofW (cc := cX7_isNight) (maxL := 4) (ret := (some .boolean)) (by decide) rfl ?_
  intro p e s m args below meth c s₁ B hml hv
  obtain ⟨rfl, hK, -⟩ := hv
  have hx := B.exec
  have hb := B.bytes
  have hr := B.returns
  have hts := atoms_spec (ws := wsX7_isNight) B.pre
  have hown : s.vm.findClass RX7 = some m.cls := findClass_of_methodNamed B.named
  have hlocks := B.notSynchronized
  have S : CallFix p m c cX7_isNight 4 s (([.long (zL tm)] : List Value)).toArray wsX7_isNight RX7 := ⟨hx, hb, hml, hown, hts⟩
  have hl := lv_entry ([.long (zL tm)]) (n := 4) (Nat.le_of_ble_eq_true rfl)
  rw [lg_entry_eq]
  generalize (lg_sl ([.long (zL tm)]) ++ List.replicate (4 - (lg_sl ([.long (zL tm)])).length) Slot.unset).toArray = ls at hl ⊢
  have hl : lv_has ls 4 [(0, .long (zL tm))] := hl
  refine lv_lload_n hx hb dX7_isNight_0 rfl (lv_at hl 0 rfl) ?_
  refine x_ldc2 (v := 1440) hx hb hown (hts (.constantLong RX7 60 (zL 1440)) (by decide +kernel)) dX7_isNight_1 ?_
  refine x_lrem hx hb (by omega) (by omega) dX7_isNight_4 ?_
  refine lv_lstore_n (lv' := [(2, .long (zL (tm % 1440))), (0, .long (zL tm))]) hx hb dX7_isNight_5 rfl hl (by decide) rfl (fun ls hl => ?_)
  refine lv_lload_n hx hb dX7_isNight_6 rfl (lv_at hl 0 rfl) ?_
  refine x_ldc2 (v := 1320) hx hb hown (hts (.constantLong RX7 62 (zL 1320)) (by decide +kernel)) dX7_isNight_7 ?_
  refine x_lcmp_ge (tgt := 22) hx hb dX7_isNight_10 dX7_isNight_11 (by decide) (by omega) (by omega) (fun c_10 => ?_) (fun c_10 => ?_)
  · refine x_iconst hx hb dX7_isNight_22 ?_
    refine lv_goto (tgt := 27) hx hb dX7_isNight_23 (by decide) ?_
    exact x_zretR hx hb hr hlocks (by first | (rw [if_pos (by omega)]) | (rw [if_neg (by omega)])) (by first | decide | exact Or.inl rfl | exact Or.inr rfl | (split <;> simp)) rfl dX7_isNight_27
  · refine lv_lload_n hx hb dX7_isNight_14 rfl (lv_at hl 0 rfl) ?_
    refine x_ldc2 (v := 360) hx hb hown (hts (.constantLong RX7 64 (zL 360)) (by decide +kernel)) dX7_isNight_15 ?_
    refine x_lcmp_ge (tgt := 26) hx hb dX7_isNight_18 dX7_isNight_19 (by decide) (by omega) (by omega) (fun c_18 => ?_) (fun c_18 => ?_)
    · refine x_iconst hx hb dX7_isNight_26 ?_
      exact x_zretR hx hb hr hlocks (by first | (rw [if_pos (by omega)]) | (rw [if_neg (by omega)])) (by first | decide | exact Or.inl rfl | exact Or.inr rfl | (split <;> simp)) rfl dX7_isNight_27
    · refine x_iconst hx hb dX7_isNight_22 ?_
      refine lv_goto (tgt := 27) hx hb dX7_isNight_23 (by decide) ?_
      exact x_zretR hx hb hr hlocks (by first | (rw [if_pos (by omega)]) | (rw [if_neg (by omega)])) (by first | decide | exact Or.inl rfl | exact Or.inr rfl | (split <;> simp)) rfl dX7_isNight_27
set_option maxHeartbeats 4000000 in
set_option maxRecDepth 100000 in
theorem c_X7_goes (l : Launch) (D : va_G) (cs : Nat → ClassId) (a : Int → Nat) (σ : Int → Int) (pa : Int → Int) (sl : Int → Int) (sv : Int → Int) (pd : Int → Int) (kn : Int) (ln : Int) (q : Int) (k : Int) (pw : Int) (hq : q = 0 ∨ q = 138) (hk : 0 ≤ k ∧ k < 7) (hp : 0 ≤ pw ∧ pw ≤ 48000) (hs : sOK σ q) (hd : dOK σ q k) : kR D cs l yX7_goes wsX7_goes ({ frames := 1, cells := 0, slots := 0, locals := 21 } : Room) [.ref (a 0), .int (zI q), .int (zI k), .int (zI pw)] (fun H => mAt D cs a σ pa sl sv pd kn ln H) (some (.long (zL (goesS σ q k pw)))) := by
  refine Met.ofW (cc := cX7_goes) (maxL := 9) (ret := (some .long)) (by decide) rfl ?_
  intro p e s m args below meth c s₁ B hml hv
  obtain ⟨rfl, hK, hM⟩ := hv
  have hx := B.exec
  have hb := B.bytes
  have hr := B.returns
  have hts := atoms_spec (ws := wsX7_goes) B.pre
  have hown : s.vm.findClass RX7 = some m.cls := findClass_of_methodNamed B.named
  have hlocks := B.notSynchronized
  have S : CallFix p m c cX7_goes 9 s (([.ref (a 0), .int (zI q), .int (zI k), .int (zI pw)] : List Value)).toArray wsX7_goes RX7 := ⟨hx, hb, hml, hown, hts⟩
  have hin7 : ∀ w ∈ wsX70, w ∈ wsX7_goes := by decide +kernel
  have hl := lv_entry ([.ref (a 0), .int (zI q), .int (zI k), .int (zI pw)]) (n := 9) (Nat.le_of_ble_eq_true rfl)
  rw [lg_entry_eq]
  generalize (lg_sl ([.ref (a 0), .int (zI q), .int (zI k), .int (zI pw)]) ++ List.replicate (9 - (lg_sl ([.ref (a 0), .int (zI q), .int (zI k), .int (zI pw)])).length) Slot.unset).toArray = ls at hl ⊢
  have hl : lv_has ls 9 [(0, .ref (a 0)), (1, .int (zI q)), (2, .int (zI k)), (3, .int (zI pw))] := hl
  obtain ⟨⟨s1, s2⟩, ⟨s3, s4⟩, s5, ⟨s6, s7⟩, s8, s9⟩ := hs
  obtain ⟨⟨d1, d2⟩, ⟨d3, d4⟩, ⟨d5, d6⟩, d7⟩ := hd
  have hm : 0 ≤ pw * σ (q + 11 + 13 * k + 2) ∧ pw * σ (q + 11 + 13 * k + 2) ≤ 48000 * 160 := ⟨Int.mul_nonneg hp.1 (by omega), Int.mul_le_mul hp.2 d4 (by omega) (by omega)⟩
  refine lv_aload_n hx hb dX7_goes_0 rfl (lv_at hl 0 rfl) ?_
  refine m_g_s S hin7 hK hM (hts (.fieldLink RX7 7 "EnergyDiscsModel" "s" "[J") (by decide +kernel)) dX7_goes_1 ?_
  refine lv_iload_n hx hb dX7_goes_4 rfl (lv_at hl 1 rfl) ?_
  refine lv_iload_n hx hb dX7_goes_5 rfl (lv_at hl 2 rfl) ?_
  refine x_callSR (As := [.int (zI q), .int (zI k)]) (rest := [.ref (a 1)]) S hK (c_X7_at l D cs q k ) (va_cwS 2 hts gX7_goes_X7_at rfl rfl rfl (by decide +kernel) ⟨(Nat.le_of_ble_eq_true rfl), (Nat.le_of_ble_eq_true rfl)⟩) trivial rfl hl.1 (Nat.le_of_ble_eq_true rfl) dX7_goes_6 ⟨Nat.zero_le _, Nat.zero_le _⟩ ?_
  refine x_iconst hx hb dX7_goes_9 ?_
  refine x_iadd hx hb dX7_goes_10 ?_
  refine m_l_s S hK hM (by omega) dX7_goes_11 ?_
  refine lv_lstore (lv' := [(4, .long (zL (σ ((q + 11 + 13 * k) + 1)))), (0, .ref (a 0)), (1, .int (zI q)), (2, .int (zI k)), (3, .int (zI pw))]) hx hb dX7_goes_12 hl (by decide) rfl (fun ls hl => ?_)
  refine lv_aload_n hx hb dX7_goes_14 rfl (lv_at hl 1 rfl) ?_
  refine m_g_s S hin7 hK hM (hts (.fieldLink RX7 7 "EnergyDiscsModel" "s" "[J") (by decide +kernel)) dX7_goes_15 ?_
  refine lv_iload_n hx hb dX7_goes_18 rfl (lv_at hl 2 rfl) ?_
  refine lv_iload_n hx hb dX7_goes_19 rfl (lv_at hl 3 rfl) ?_
  refine x_callSR (As := [.int (zI q), .int (zI k)]) (rest := [.ref (a 1)]) S hK (c_X7_at l D cs q k ) (va_cwS 2 hts gX7_goes_X7_at rfl rfl rfl (by decide +kernel) ⟨(Nat.le_of_ble_eq_true rfl), (Nat.le_of_ble_eq_true rfl)⟩) trivial rfl hl.1 (Nat.le_of_ble_eq_true rfl) dX7_goes_20 ⟨Nat.zero_le _, Nat.zero_le _⟩ ?_
  refine x_bipush hx hb dX7_goes_23 (by decide +kernel) ?_
  refine x_iadd hx hb dX7_goes_25 ?_
  refine m_l_s S hK hM (by omega) dX7_goes_26 ?_
  refine x_lconst (v := 1) hx hb dX7_goes_27 rfl ?_
  refine x_lcmp_ne (tgt := 36) hx hb dX7_goes_28 dX7_goes_29 (by decide) (by omega) (by omega) (fun c_28 => ?_) (fun c_28 => ?_)
  · refine x_iconst hx hb dX7_goes_36 ?_
    refine lv_istore (lv' := [(6, .int (zI 0)), (4, .long (zL (σ ((q + 11 + 13 * k) + 1)))), (0, .ref (a 0)), (1, .int (zI q)), (2, .int (zI k)), (3, .int (zI pw))]) hx hb dX7_goes_37 hl (by decide) rfl (fun ls hl => ?_)
    refine lv_iload_n hx hb dX7_goes_39 rfl (lv_at hl 5 rfl) ?_
    refine x_i2l hx hb (by omega) dX7_goes_40 ?_
    refine lv_aload_n hx hb dX7_goes_41 rfl (lv_at hl 2 rfl) ?_
    refine m_g_s S hin7 hK hM (hts (.fieldLink RX7 7 "EnergyDiscsModel" "s" "[J") (by decide +kernel)) dX7_goes_42 ?_
    refine lv_iload_n hx hb dX7_goes_45 rfl (lv_at hl 3 rfl) ?_
    refine x_iconst hx hb dX7_goes_46 ?_
    refine x_iadd hx hb dX7_goes_47 ?_
    refine m_l_s S hK hM (by omega) dX7_goes_48 ?_
    refine x_lcmp_le (tgt := 94) hx hb dX7_goes_49 dX7_goes_50 (by decide) (by omega) (by omega) (fun c_49 => ?_) (fun c_49 => ?_)
    · refine lv_iload_n hx hb dX7_goes_94 rfl (lv_at hl 5 rfl) ?_
      refine x_if_gt (tgt := 103) hx hb dX7_goes_95 (by decide) (by omega) (fun c_95 => ?_) (fun c_95 => ?_)
      · refine lv_lload hx hb dX7_goes_103 (lv_at hl 1 rfl) ?_
        exact x_lretR hx hb hr hlocks (by unfold goesS; (repeat (first | rw [if_pos (by omega)] | rw [if_neg (by omega)])) <;> rfl) rfl dX7_goes_105
      · refine lv_iload hx hb dX7_goes_98 (lv_at hl 0 rfl) ?_
        refine x_if_eq (tgt := 106) hx hb dX7_goes_100 (by decide) (by decide) (fun _ => ?_) (fun q => absurd q (by decide))
        refine lv_aload_n hx hb dX7_goes_106 rfl (lv_at hl 2 rfl) ?_
        refine m_g_s S hin7 hK hM (hts (.fieldLink RX7 7 "EnergyDiscsModel" "s" "[J") (by decide +kernel)) dX7_goes_107 ?_
        refine lv_iload_n hx hb dX7_goes_110 rfl (lv_at hl 3 rfl) ?_
        refine x_iconst hx hb dX7_goes_111 ?_
        refine x_iadd hx hb dX7_goes_112 ?_
        refine m_l_s S hK hM (by omega) dX7_goes_113 ?_
        refine x_lconst (v := 0) hx hb dX7_goes_114 rfl ?_
        refine x_lcmp_ne (tgt := 131) hx hb dX7_goes_115 dX7_goes_116 (by decide) (by omega) (by omega) (fun c_115 => ?_) (fun c_115 => ?_)
        · refine lv_lload hx hb dX7_goes_131 (lv_at hl 1 rfl) ?_
          refine x_lconst (v := 0) hx hb dX7_goes_133 rfl ?_
          refine x_lcmp_ne (tgt := 142) hx hb dX7_goes_134 dX7_goes_135 (by decide) (by omega) (by omega) (fun c_134 => ?_) (fun c_134 => ?_)
          · refine lv_lload hx hb dX7_goes_142 (lv_at hl 1 rfl) ?_
            refine lv_aload_n hx hb dX7_goes_144 rfl (lv_at hl 2 rfl) ?_
            refine m_g_s S hin7 hK hM (hts (.fieldLink RX7 7 "EnergyDiscsModel" "s" "[J") (by decide +kernel)) dX7_goes_145 ?_
            refine lv_iload_n hx hb dX7_goes_148 rfl (lv_at hl 3 rfl) ?_
            refine x_iconst hx hb dX7_goes_149 ?_
            refine x_iadd hx hb dX7_goes_150 ?_
            refine m_l_s S hK hM (by omega) dX7_goes_151 ?_
            refine x_ladd hx hb dX7_goes_152 ?_
            refine lv_lstore (lv' := [(7, .long (zL ((σ ((q + 11 + 13 * k) + 1)) + (σ (q + 1))))), (6, .int (zI 0)), (4, .long (zL (σ ((q + 11 + 13 * k) + 1)))), (0, .ref (a 0)), (1, .int (zI q)), (2, .int (zI k)), (3, .int (zI pw))]) hx hb dX7_goes_153 hl (by decide) rfl (fun ls hl => ?_)
            refine lv_lload hx hb dX7_goes_155 (lv_at hl 0 rfl) ?_
            refine x_ldc2 (v := 6000) hx hb hown (hts (.constantLong RX7 68 (zL 6000)) (by decide +kernel)) dX7_goes_157 ?_
            refine x_lcmp_le (tgt := 170) hx hb dX7_goes_160 dX7_goes_161 (by decide) (by omega) (by omega) (fun c_160 => ?_) (fun c_160 => ?_)
            · refine lv_lload hx hb dX7_goes_170 (lv_at hl 0 rfl) ?_
              exact x_lretR hx hb hr hlocks (by unfold goesS; (repeat (first | rw [if_pos (by omega)] | rw [if_neg (by omega)])) <;> rfl) rfl dX7_goes_172
            · refine x_ldc2 (v := 6000) hx hb hown (hts (.constantLong RX7 68 (zL 6000)) (by decide +kernel)) dX7_goes_164 ?_
              refine lv_goto (tgt := 172) hx hb dX7_goes_167 (by decide) ?_
              exact x_lretR hx hb hr hlocks (by unfold goesS; (repeat (first | rw [if_pos (by omega)] | rw [if_neg (by omega)])) <;> rfl) rfl dX7_goes_172
          · refine x_lconst (v := 0) hx hb dX7_goes_138 rfl ?_
            refine lv_goto (tgt := 153) hx hb dX7_goes_139 (by decide) ?_
            refine lv_lstore (lv' := [(7, .long (zL 0)), (6, .int (zI 0)), (4, .long (zL (σ ((q + 11 + 13 * k) + 1)))), (0, .ref (a 0)), (1, .int (zI q)), (2, .int (zI k)), (3, .int (zI pw))]) hx hb dX7_goes_153 hl (by decide) rfl (fun ls hl => ?_)
            refine lv_lload hx hb dX7_goes_155 (lv_at hl 0 rfl) ?_
            refine x_ldc2 (v := 6000) hx hb hown (hts (.constantLong RX7 68 (zL 6000)) (by decide +kernel)) dX7_goes_157 ?_
            refine x_lcmp_le (tgt := 170) hx hb dX7_goes_160 dX7_goes_161 (by decide) (by decide) (by decide) (fun _ => ?_) (fun q => absurd q (by decide))
            refine lv_lload hx hb dX7_goes_170 (lv_at hl 0 rfl) ?_
            exact x_lretR hx hb hr hlocks (by unfold goesS; (repeat (first | rw [if_pos (by omega)] | rw [if_neg (by omega)])) <;> rfl) rfl dX7_goes_172
        · refine lv_lload hx hb dX7_goes_119 (lv_at hl 1 rfl) ?_
          refine lv_aload_n hx hb dX7_goes_121 rfl (lv_at hl 2 rfl) ?_
          refine m_g_s S hin7 hK hM (hts (.fieldLink RX7 7 "EnergyDiscsModel" "s" "[J") (by decide +kernel)) dX7_goes_122 ?_
          refine lv_iload_n hx hb dX7_goes_125 rfl (lv_at hl 3 rfl) ?_
          refine x_iconst hx hb dX7_goes_126 ?_
          refine x_iadd hx hb dX7_goes_127 ?_
          refine m_l_s S hK hM (by omega) dX7_goes_128 ?_
          refine x_ladd hx hb dX7_goes_129 ?_
          exact x_lretR hx hb hr hlocks (by unfold goesS; (repeat (first | rw [if_pos (by omega)] | rw [if_neg (by omega)])) <;> rfl) rfl dX7_goes_130
    · refine lv_iload_n hx hb dX7_goes_53 rfl (lv_at hl 5 rfl) ?_
      refine x_i2l hx hb (by omega) dX7_goes_54 ?_
      refine lv_aload_n hx hb dX7_goes_55 rfl (lv_at hl 2 rfl) ?_
      refine m_g_s S hin7 hK hM (hts (.fieldLink RX7 7 "EnergyDiscsModel" "s" "[J") (by decide +kernel)) dX7_goes_56 ?_
      refine lv_iload_n hx hb dX7_goes_59 rfl (lv_at hl 3 rfl) ?_
      refine lv_iload_n hx hb dX7_goes_60 rfl (lv_at hl 4 rfl) ?_
      refine x_callSR (As := [.int (zI q), .int (zI k)]) (rest := [.ref (a 1), .long (zL pw)]) S hK (c_X7_at l D cs q k ) (va_cwS 2 hts gX7_goes_X7_at rfl rfl rfl (by decide +kernel) ⟨(Nat.le_of_ble_eq_true rfl), (Nat.le_of_ble_eq_true rfl)⟩) trivial rfl hl.1 (Nat.le_of_ble_eq_true rfl) dX7_goes_61 ⟨Nat.zero_le _, Nat.zero_le _⟩ ?_
      refine x_iconst hx hb dX7_goes_64 ?_
      refine x_iadd hx hb dX7_goes_65 ?_
      refine m_l_s S hK hM (by omega) dX7_goes_66 ?_
      refine x_lmul hx hb dX7_goes_67 ?_
      refine x_ldc2 (v := 100) hx hb hown (hts (.constantLong RX7 66 (zL 100)) (by decide +kernel)) dX7_goes_68 ?_
      refine x_ldiv hx hb (by omega) (by omega) dX7_goes_71 ?_
      refine lv_lstore (lv' := [(7, .long (zL ((pw * (σ ((q + 11 + 13 * k) + 2))) / 100))), (6, .int (zI 0)), (4, .long (zL (σ ((q + 11 + 13 * k) + 1)))), (0, .ref (a 0)), (1, .int (zI q)), (2, .int (zI k)), (3, .int (zI pw))]) hx hb dX7_goes_72 hl (by decide) rfl (fun ls hl => ?_)
      refine lv_lload hx hb dX7_goes_74 (lv_at hl 2 rfl) ?_
      refine lv_iload hx hb dX7_goes_76 (lv_at hl 1 rfl) ?_
      refine x_if_eq (tgt := 90) hx hb dX7_goes_78 (by decide) (by decide) (fun _ => ?_) (fun q => absurd q (by decide))
      refine lv_lload hx hb dX7_goes_90 (lv_at hl 0 rfl) ?_
      refine x_ladd hx hb dX7_goes_92 ?_
      exact x_lretR hx hb hr hlocks (by unfold goesS; (repeat (first | rw [if_pos (by omega)] | rw [if_neg (by omega)])) <;> rfl) rfl dX7_goes_93
  · refine x_iconst hx hb dX7_goes_32 ?_
    refine lv_goto (tgt := 37) hx hb dX7_goes_33 (by decide) ?_
    refine lv_istore (lv' := [(6, .int (zI 1)), (4, .long (zL (σ ((q + 11 + 13 * k) + 1)))), (0, .ref (a 0)), (1, .int (zI q)), (2, .int (zI k)), (3, .int (zI pw))]) hx hb dX7_goes_37 hl (by decide) rfl (fun ls hl => ?_)
    refine lv_iload_n hx hb dX7_goes_39 rfl (lv_at hl 5 rfl) ?_
    refine x_i2l hx hb (by omega) dX7_goes_40 ?_
    refine lv_aload_n hx hb dX7_goes_41 rfl (lv_at hl 2 rfl) ?_
    refine m_g_s S hin7 hK hM (hts (.fieldLink RX7 7 "EnergyDiscsModel" "s" "[J") (by decide +kernel)) dX7_goes_42 ?_
    refine lv_iload_n hx hb dX7_goes_45 rfl (lv_at hl 3 rfl) ?_
    refine x_iconst hx hb dX7_goes_46 ?_
    refine x_iadd hx hb dX7_goes_47 ?_
    refine m_l_s S hK hM (by omega) dX7_goes_48 ?_
    refine x_lcmp_le (tgt := 94) hx hb dX7_goes_49 dX7_goes_50 (by decide) (by omega) (by omega) (fun c_49 => ?_) (fun c_49 => ?_)
    · refine lv_iload_n hx hb dX7_goes_94 rfl (lv_at hl 5 rfl) ?_
      refine x_if_gt (tgt := 103) hx hb dX7_goes_95 (by decide) (by omega) (fun c_95 => ?_) (fun c_95 => ?_)
      · refine lv_lload hx hb dX7_goes_103 (lv_at hl 1 rfl) ?_
        exact x_lretR hx hb hr hlocks (by unfold goesS; (repeat (first | rw [if_pos (by omega)] | rw [if_neg (by omega)])) <;> rfl) rfl dX7_goes_105
      · refine lv_iload hx hb dX7_goes_98 (lv_at hl 0 rfl) ?_
        refine x_if_eq (tgt := 106) hx hb dX7_goes_100 (by decide) (by decide) (fun q => absurd q (by decide)) (fun _ => ?_)
        refine lv_lload hx hb dX7_goes_103 (lv_at hl 1 rfl) ?_
        exact x_lretR hx hb hr hlocks (by unfold goesS; (repeat (first | rw [if_pos (by omega)] | rw [if_neg (by omega)])) <;> rfl) rfl dX7_goes_105
    · refine lv_iload_n hx hb dX7_goes_53 rfl (lv_at hl 5 rfl) ?_
      refine x_i2l hx hb (by omega) dX7_goes_54 ?_
      refine lv_aload_n hx hb dX7_goes_55 rfl (lv_at hl 2 rfl) ?_
      refine m_g_s S hin7 hK hM (hts (.fieldLink RX7 7 "EnergyDiscsModel" "s" "[J") (by decide +kernel)) dX7_goes_56 ?_
      refine lv_iload_n hx hb dX7_goes_59 rfl (lv_at hl 3 rfl) ?_
      refine lv_iload_n hx hb dX7_goes_60 rfl (lv_at hl 4 rfl) ?_
      refine x_callSR (As := [.int (zI q), .int (zI k)]) (rest := [.ref (a 1), .long (zL pw)]) S hK (c_X7_at l D cs q k ) (va_cwS 2 hts gX7_goes_X7_at rfl rfl rfl (by decide +kernel) ⟨(Nat.le_of_ble_eq_true rfl), (Nat.le_of_ble_eq_true rfl)⟩) trivial rfl hl.1 (Nat.le_of_ble_eq_true rfl) dX7_goes_61 ⟨Nat.zero_le _, Nat.zero_le _⟩ ?_
      refine x_iconst hx hb dX7_goes_64 ?_
      refine x_iadd hx hb dX7_goes_65 ?_
      refine m_l_s S hK hM (by omega) dX7_goes_66 ?_
      refine x_lmul hx hb dX7_goes_67 ?_
      refine x_ldc2 (v := 100) hx hb hown (hts (.constantLong RX7 66 (zL 100)) (by decide +kernel)) dX7_goes_68 ?_
      refine x_ldiv hx hb (by omega) (by omega) dX7_goes_71 ?_
      refine lv_lstore (lv' := [(7, .long (zL ((pw * (σ ((q + 11 + 13 * k) + 2))) / 100))), (6, .int (zI 1)), (4, .long (zL (σ ((q + 11 + 13 * k) + 1)))), (0, .ref (a 0)), (1, .int (zI q)), (2, .int (zI k)), (3, .int (zI pw))]) hx hb dX7_goes_72 hl (by decide) rfl (fun ls hl => ?_)
      refine lv_lload hx hb dX7_goes_74 (lv_at hl 2 rfl) ?_
      refine lv_iload hx hb dX7_goes_76 (lv_at hl 1 rfl) ?_
      refine x_if_eq (tgt := 90) hx hb dX7_goes_78 (by decide) (by decide) (fun q => absurd q (by decide)) (fun _ => ?_)
      refine lv_lload hx hb dX7_goes_81 (lv_at hl 0 rfl) ?_
      refine x_ldc2 (v := 2) hx hb hown (hts (.constantLong RX7 29 (zL 2)) (by decide +kernel)) dX7_goes_83 ?_
      refine x_ldiv hx hb (by omega) (by omega) dX7_goes_86 ?_
      refine lv_goto (tgt := 92) hx hb dX7_goes_87 (by decide) ?_
      refine x_ladd hx hb dX7_goes_92 ?_
      exact x_lretR hx hb hr hlocks (by unfold goesS; (repeat (first | rw [if_pos (by omega)] | rw [if_neg (by omega)])) <;> rfl) rfl dX7_goes_93
set_option maxHeartbeats 4000000 in
set_option maxRecDepth 100000 in
theorem c_X7_passesOne (l : Launch) (D : va_G) (cs : Nat → ClassId) (a : Int → Nat) (σ : Int → Int) (pa : Int → Int) (sl : Int → Int) (sv : Int → Int) (pd : Int → Int) (kn : Int) (ln : Int) (q : Int) (k : Int) (hq : q = 0 ∨ q = 138) (hk : 0 ≤ k ∧ k < σ 7) (hL : lOK σ) (hs : sOK σ q) (hd : dOK σ q k) (hI : mI a) : kM D cs l yX7_passesOne wsX7_passesOne ({ frames := 4, cells := 0, slots := 0, locals := 90 } : Room) [.ref (a 0), .int (zI q), .int (zI k)] (fun H => mAt D cs a σ pa sl sv pd kn ln H) (some (.int (zI (pOneP σ q k / 6000)))) (fun H => mAt D cs a (pOne σ q k) pa sl sv pd kn ln H) (mC a) := by
  refine Met.ofW (cc := cX7_passesOne) (maxL := 9) (ret := (some .int)) (by decide) rfl ?_
  intro p e s m args below meth c s₁ B hml hv
  obtain ⟨rfl, hK, hM⟩ := hv
  have hx := B.exec
  have hb := B.bytes
  have hr := B.returns
  have hts := atoms_spec (ws := wsX7_passesOne) B.pre
  have hown : s.vm.findClass RX7 = some m.cls := findClass_of_methodNamed B.named
  have hlocks := B.notSynchronized
  have S : CallFix p m c cX7_passesOne 9 s (([.ref (a 0), .int (zI q), .int (zI k)] : List Value)).toArray wsX7_passesOne RX7 := ⟨hx, hb, hml, hown, hts⟩
  have hin7 : ∀ w ∈ wsX70, w ∈ wsX7_passesOne := by decide +kernel
  have hS : va_S (mC a) s.heap s.heap [] := va_S.rf
  have hl := lv_entry ([.ref (a 0), .int (zI q), .int (zI k)]) (n := 9) (Nat.le_of_ble_eq_true rfl)
  rw [lg_entry_eq]
  generalize (lg_sl ([.ref (a 0), .int (zI q), .int (zI k)]) ++ List.replicate (9 - (lg_sl ([.ref (a 0), .int (zI q), .int (zI k)])).length) Slot.unset).toArray = ls at hl ⊢
  have hl : lv_has ls 9 [(0, .ref (a 0)), (1, .int (zI q)), (2, .int (zI k))] := hl
  have h7 := hL.1
  have hpw := pwr_rng hL k
  have hsA : sOK (pOneA σ q k) q := sOK_up hs (by omega)
  have hdA : dOK (pOneA σ q k) q k := dOK_up hd (by omega)
  have hP := goesS_rng hsA hdA hpw
  have hP : 0 ≤ pOneP σ q k ∧ pOneP σ q k < 100000 := hP
  have s3 := hs.2.2.2.1
  have s6 := hs.2.2.2.2
  have d2 := hd.2.1
  have d9 := hd.2.2.1
  have e6 : pOneB σ q k (q + 6) = σ (q + 6) := (up_n (by omega)).trans (up_n (by omega))
  refine lv_iload_n hx hb dX7_passesOne_0 rfl (lv_at hl 1 rfl) ?_
  refine lv_iload_n hx hb dX7_passesOne_1 rfl (lv_at hl 2 rfl) ?_
  refine x_callSR (As := [.int (zI q), .int (zI k)]) (rest := []) S hK (c_X7_at l D cs q k ) (va_cwS 2 hts gX7_passesOne_X7_at rfl rfl rfl (by decide +kernel) ⟨(Nat.le_of_ble_eq_true rfl), (Nat.le_of_ble_eq_true rfl)⟩) trivial rfl hl.1 (Nat.le_of_ble_eq_true rfl) dX7_passesOne_2 ⟨Nat.zero_le _, Nat.zero_le _⟩ ?_
  refine lv_istore_n (lv' := [(3, .int (zI (q + 11 + 13 * k))), (0, .ref (a 0)), (1, .int (zI q)), (2, .int (zI k))]) hx hb dX7_passesOne_5 rfl hl (by decide) rfl (fun ls hl => ?_)
  refine lv_aload_n hx hb dX7_passesOne_6 rfl (lv_at hl 1 rfl) ?_
  refine lv_iload_n hx hb dX7_passesOne_7 rfl (lv_at hl 3 rfl) ?_
  refine x_callVR (As := [.int (zI k)]) (rest := []) S hK (c_X7_power l D cs a σ pa sl sv pd kn ln k (by omega) (by omega)) (cwV 1 hts gX7_passesOne_X7_power rfl rfl rfl (by decide +kernel) ⟨(Nat.le_of_ble_eq_true rfl), (Nat.le_of_ble_eq_true rfl)⟩) (x_rc hK (mAt_0 hM) rfl) hM rfl hl.1 (Nat.le_of_ble_eq_true rfl) dX7_passesOne_8 ⟨Nat.zero_le _, Nat.zero_le _⟩ ?_
  refine lv_istore (lv' := [(4, .int (zI (pwr σ k))), (3, .int (zI (q + 11 + 13 * k))), (0, .ref (a 0)), (1, .int (zI q)), (2, .int (zI k))]) hx hb dX7_passesOne_11 hl (by decide) rfl (fun ls hl => ?_)
  refine lv_aload_n hx hb dX7_passesOne_13 rfl (lv_at hl 2 rfl) ?_
  refine m_g_s S hin7 hK hM (hts (.fieldLink RX7 7 "EnergyDiscsModel" "s" "[J") (by decide +kernel)) dX7_passesOne_14 ?_
  refine lv_iload_n hx hb dX7_passesOne_17 rfl (lv_at hl 1 rfl) ?_
  refine x_iconst hx hb dX7_passesOne_18 ?_
  refine x_iadd hx hb dX7_passesOne_19 ?_
  refine lv_dup2_11 hx hb dX7_passesOne_20 rfl rfl ?_
  refine m_l_s S hK hM (by omega) dX7_passesOne_21 ?_
  refine lv_iload hx hb dX7_passesOne_22 (lv_at hl 0 rfl) ?_
  refine x_i2l hx hb (by omega) dX7_passesOne_24 ?_
  refine x_ladd hx hb dX7_passesOne_25 ?_
  refine m_s_s S hK hM hI hS (by omega) dX7_passesOne_26 (fun H locs hM hS => ?_)
  have hM : mAt D cs a (pOneA σ q k) pa sl sv pd kn ln H := hM
  refine lv_aload_n hx hb dX7_passesOne_27 rfl (lv_at hl 2 rfl) ?_
  refine lv_iload_n hx hb dX7_passesOne_28 rfl (lv_at hl 3 rfl) ?_
  refine lv_iload_n hx hb dX7_passesOne_29 rfl (lv_at hl 4 rfl) ?_
  refine lv_iload hx hb dX7_passesOne_30 (lv_at hl 0 rfl) ?_
  refine x_callVR (As := [.int (zI q), .int (zI k), .int (zI (pwr σ k))]) (rest := []) S hK (c_X7_goes l D cs a (pOneA σ q k) pa sl sv pd kn ln q k (pwr σ k) (by omega) (by omega) (by omega) (by exact hsA) (by exact hdA)) (cwV 3 hts gX7_passesOne_X7_goes rfl rfl rfl (by decide +kernel) ⟨(Nat.le_of_ble_eq_true rfl), (Nat.le_of_ble_eq_true rfl)⟩) (x_rc hK (mAt_0 hM) rfl) hM rfl hl.1 (Nat.le_of_ble_eq_true rfl) dX7_passesOne_32 ⟨Nat.zero_le _, Nat.zero_le _⟩ ?_
  refine lv_lstore (lv' := [(5, .long (zL (pOneP σ q k))), (4, .int (zI (pwr σ k))), (3, .int (zI (q + 11 + 13 * k))), (0, .ref (a 0)), (1, .int (zI q)), (2, .int (zI k))]) hx hb dX7_passesOne_35 hl (by decide) rfl (fun ls hl => ?_)
  refine lv_lload hx hb dX7_passesOne_37 (lv_at hl 0 rfl) ?_
  refine x_ldc2 (v := 6000) hx hb hown (hts (.constantLong RX7 68 (zL 6000)) (by decide +kernel)) dX7_passesOne_39 ?_
  refine x_ldiv hx hb (by omega) (by omega) dX7_passesOne_42 ?_
  refine lv_lstore (lv' := [(7, .long (zL (pOneP σ q k / 6000))), (5, .long (zL (pOneP σ q k))), (4, .int (zI (pwr σ k))), (3, .int (zI (q + 11 + 13 * k))), (0, .ref (a 0)), (1, .int (zI q)), (2, .int (zI k))]) hx hb dX7_passesOne_43 hl (by decide) rfl (fun ls hl => ?_)
  refine lv_aload_n hx hb dX7_passesOne_45 rfl (lv_at hl 4 rfl) ?_
  refine m_g_s S hin7 hK hM (hts (.fieldLink RX7 7 "EnergyDiscsModel" "s" "[J") (by decide +kernel)) dX7_passesOne_46 ?_
  refine lv_iload_n hx hb dX7_passesOne_49 rfl (lv_at hl 3 rfl) ?_
  refine x_iconst hx hb dX7_passesOne_50 ?_
  refine x_iadd hx hb dX7_passesOne_51 ?_
  refine lv_lload hx hb dX7_passesOne_52 (lv_at hl 1 rfl) ?_
  refine x_ldc2 (v := 6000) hx hb hown (hts (.constantLong RX7 68 (zL 6000)) (by decide +kernel)) dX7_passesOne_54 ?_
  refine x_lrem hx hb (by omega) (by omega) dX7_passesOne_57 ?_
  refine m_s_s S hK hM hI hS (by omega) dX7_passesOne_58 (fun H locs hM hS => ?_)
  have hM : mAt D cs a (pOneB σ q k) pa sl sv pd kn ln H := hM
  refine lv_aload_n hx hb dX7_passesOne_59 rfl (lv_at hl 4 rfl) ?_
  refine m_g_s S hin7 hK hM (hts (.fieldLink RX7 7 "EnergyDiscsModel" "s" "[J") (by decide +kernel)) dX7_passesOne_60 ?_
  refine lv_iload_n hx hb dX7_passesOne_63 rfl (lv_at hl 3 rfl) ?_
  refine lv_aload_n hx hb dX7_passesOne_64 rfl (lv_at hl 4 rfl) ?_
  refine m_g_s S hin7 hK hM (hts (.fieldLink RX7 7 "EnergyDiscsModel" "s" "[J") (by decide +kernel)) dX7_passesOne_65 ?_
  refine lv_iload_n hx hb dX7_passesOne_68 rfl (lv_at hl 5 rfl) ?_
  refine x_bipush hx hb dX7_passesOne_69 (by decide +kernel) ?_
  refine x_iadd hx hb dX7_passesOne_71 ?_
  refine m_l_s S hK hM (by omega) dX7_passesOne_72 ?_
  refine x_callSR (As := [.long (zL ((pOneB σ q k) (q + 6)))]) (rest := [.int (zI (q + 11 + 13 * k)), .ref (a 1)]) S hK (c_X7_isNight l D cs ((pOneB σ q k) (q + 6)) (by omega)) (va_cwS 1 hts gX7_passesOne_X7_isNight rfl rfl rfl (by decide +kernel) ⟨(Nat.le_of_ble_eq_true rfl), (Nat.le_of_ble_eq_true rfl)⟩) trivial rfl hl.1 (Nat.le_of_ble_eq_true rfl) dX7_passesOne_73 ⟨Nat.zero_le _, Nat.zero_le _⟩ ?_
  refine x_ifb_eq (tgt := 83) hx hb dX7_passesOne_76 (by decide)  (fun c_76 => ?_) (fun c_76 => ?_)
  · refine x_iconst hx hb dX7_passesOne_83 ?_
    refine x_iadd hx hb dX7_passesOne_84 ?_
    refine lv_dup2_11 hx hb dX7_passesOne_85 rfl rfl ?_
    refine m_l_s S hK hM (by omega) dX7_passesOne_86 ?_
    refine lv_lload hx hb dX7_passesOne_87 (lv_at hl 0 rfl) ?_
    refine x_ladd hx hb dX7_passesOne_89 ?_
    refine m_s_s S hK hM hI hS (by omega) dX7_passesOne_90 (fun H locs hM hS => ?_)
    have hM : mAt D cs a (pOneC σ q k) pa sl sv pd kn ln H := mAt_cong hM (by unfold pOneC pOneI; first | rw [if_pos c_76] | rw [if_neg c_76]) rfl rfl rfl rfl rfl rfl
    refine lv_aload_n hx hb dX7_passesOne_91 rfl (lv_at hl 4 rfl) ?_
    refine m_g_s S hin7 hK hM (hts (.fieldLink RX7 7 "EnergyDiscsModel" "s" "[J") (by decide +kernel)) dX7_passesOne_92 ?_
    refine lv_iload_n hx hb dX7_passesOne_95 rfl (lv_at hl 3 rfl) ?_
    refine x_bipush hx hb dX7_passesOne_96 (by decide +kernel) ?_
    refine x_iadd hx hb dX7_passesOne_98 ?_
    refine lv_dup2_11 hx hb dX7_passesOne_99 rfl rfl ?_
    refine m_l_s S hK hM (by omega) dX7_passesOne_100 ?_
    refine x_lconst (v := 1) hx hb dX7_passesOne_101 rfl ?_
    refine x_ladd hx hb dX7_passesOne_102 ?_
    refine m_s_s S hK hM hI hS (by omega) dX7_passesOne_103 (fun H locs hM hS => ?_)
    have hM : mAt D cs a (pOneD σ q k) pa sl sv pd kn ln H := hM
    have hD9 : pOneD σ q k (q + 11 + 13 * k + 9) = σ (q + 11 + 13 * k + 9) + 1 := pOneD_9 hq
    have hD3 : pOneD σ q k (q + 3) = σ (q + 3) := pOneD_n hq (by omega) (by omega)
    refine lv_aload_n hx hb dX7_passesOne_104 rfl (lv_at hl 4 rfl) ?_
    refine m_g_s S hin7 hK hM (hts (.fieldLink RX7 7 "EnergyDiscsModel" "s" "[J") (by decide +kernel)) dX7_passesOne_105 ?_
    refine lv_iload_n hx hb dX7_passesOne_108 rfl (lv_at hl 3 rfl) ?_
    refine x_bipush hx hb dX7_passesOne_109 (by decide +kernel) ?_
    refine x_iadd hx hb dX7_passesOne_111 ?_
    refine m_l_s S hK hM (by omega) dX7_passesOne_112 ?_
    refine lv_aload_n hx hb dX7_passesOne_113 rfl (lv_at hl 4 rfl) ?_
    refine m_g_s S hin7 hK hM (hts (.fieldLink RX7 7 "EnergyDiscsModel" "s" "[J") (by decide +kernel)) dX7_passesOne_114 ?_
    refine lv_iload_n hx hb dX7_passesOne_117 rfl (lv_at hl 5 rfl) ?_
    refine x_iconst hx hb dX7_passesOne_118 ?_
    refine x_iadd hx hb dX7_passesOne_119 ?_
    refine m_l_s S hK hM (by omega) dX7_passesOne_120 ?_
    refine x_lcmp_lt (tgt := 166) hx hb dX7_passesOne_121 dX7_passesOne_122 (by decide) (by omega) (by omega) (fun c_121 => ?_) (fun c_121 => ?_)
    · refine lv_lload hx hb dX7_passesOne_166 (lv_at hl 0 rfl) ?_
      refine x_l2i hx hb dX7_passesOne_168 ?_
      exact x_iretM hx hb hr hlocks (by first | rfl | omega) (mAt_cong hM (by unfold pOne; first | rw [if_pos (by assumption)] | (rw [if_neg (by assumption)]; first | rw [if_pos (by omega)] | rw [if_neg (by omega)])) rfl rfl rfl rfl rfl rfl) hS dX7_passesOne_169
    · refine lv_aload_n hx hb dX7_passesOne_125 rfl (lv_at hl 4 rfl) ?_
      refine m_g_s S hin7 hK hM (hts (.fieldLink RX7 7 "EnergyDiscsModel" "s" "[J") (by decide +kernel)) dX7_passesOne_126 ?_
      refine lv_iload_n hx hb dX7_passesOne_129 rfl (lv_at hl 3 rfl) ?_
      refine x_bipush hx hb dX7_passesOne_130 (by decide +kernel) ?_
      refine x_iadd hx hb dX7_passesOne_132 ?_
      refine x_lconst (v := 0) hx hb dX7_passesOne_133 rfl ?_
      refine m_s_s S hK hM hI hS (by omega) dX7_passesOne_134 (fun H locs hM hS => ?_)
      have hM : mAt D cs a (pOneE σ q k) pa sl sv pd kn ln H := hM
      have hE2 : pOneE σ q k (q + 11 + 13 * k + 2) = σ (q + 11 + 13 * k + 2) := (up_n (by omega)).trans (pOneD_2 hq)
      refine lv_aload_n hx hb dX7_passesOne_135 rfl (lv_at hl 4 rfl) ?_
      refine m_g_s S hin7 hK hM (hts (.fieldLink RX7 7 "EnergyDiscsModel" "s" "[J") (by decide +kernel)) dX7_passesOne_136 ?_
      refine lv_iload_n hx hb dX7_passesOne_139 rfl (lv_at hl 3 rfl) ?_
      refine x_iconst hx hb dX7_passesOne_140 ?_
      refine x_iadd hx hb dX7_passesOne_141 ?_
      refine lv_dup2_11 hx hb dX7_passesOne_142 rfl rfl ?_
      refine m_l_s S hK hM (by omega) dX7_passesOne_143 ?_
      refine lv_aload_n hx hb dX7_passesOne_144 rfl (lv_at hl 4 rfl) ?_
      refine m_g_s S hin7 hK hM (hts (.fieldLink RX7 7 "EnergyDiscsModel" "s" "[J") (by decide +kernel)) dX7_passesOne_145 ?_
      refine lv_iload_n hx hb dX7_passesOne_148 rfl (lv_at hl 3 rfl) ?_
      refine x_iconst hx hb dX7_passesOne_149 ?_
      refine x_iadd hx hb dX7_passesOne_150 ?_
      refine m_l_s S hK hM (by omega) dX7_passesOne_151 ?_
      refine x_ldc2 (v := 160) hx hb hown (hts (.constantLong RX7 81 (zL 160)) (by decide +kernel)) dX7_passesOne_152 ?_
      refine x_lcmp_ge (tgt := 163) hx hb dX7_passesOne_155 dX7_passesOne_156 (by decide) (by omega) (by omega) (fun c_155 => ?_) (fun c_155 => ?_)
      · refine x_lconst (v := 0) hx hb dX7_passesOne_163 rfl ?_
        refine x_ladd hx hb dX7_passesOne_164 ?_
        refine m_s_s S hK hM hI hS (by omega) dX7_passesOne_165 (fun H locs hM hS => ?_)
        refine lv_lload hx hb dX7_passesOne_166 (lv_at hl 0 rfl) ?_
        refine x_l2i hx hb dX7_passesOne_168 ?_
        exact x_iretM hx hb hr hlocks (by first | rfl | omega) (mAt_cong hM (by unfold pOne; first | rw [if_pos (by assumption)] | (rw [if_neg (by assumption)]; first | rw [if_pos (by omega)] | rw [if_neg (by omega)])) rfl rfl rfl rfl rfl rfl) hS dX7_passesOne_169
      · refine x_lconst (v := 1) hx hb dX7_passesOne_159 rfl ?_
        refine lv_goto (tgt := 164) hx hb dX7_passesOne_160 (by decide) ?_
        refine x_ladd hx hb dX7_passesOne_164 ?_
        refine m_s_s S hK hM hI hS (by omega) dX7_passesOne_165 (fun H locs hM hS => ?_)
        refine lv_lload hx hb dX7_passesOne_166 (lv_at hl 0 rfl) ?_
        refine x_l2i hx hb dX7_passesOne_168 ?_
        exact x_iretM hx hb hr hlocks (by first | rfl | omega) (mAt_cong hM (by unfold pOne; first | rw [if_pos (by assumption)] | (rw [if_neg (by assumption)]; first | rw [if_pos (by omega)] | rw [if_neg (by omega)])) rfl rfl rfl rfl rfl rfl) hS dX7_passesOne_169
  · refine x_iconst hx hb dX7_passesOne_79 ?_
    refine lv_goto (tgt := 84) hx hb dX7_passesOne_80 (by decide) ?_
    refine x_iadd hx hb dX7_passesOne_84 ?_
    refine lv_dup2_11 hx hb dX7_passesOne_85 rfl rfl ?_
    refine m_l_s S hK hM (by omega) dX7_passesOne_86 ?_
    refine lv_lload hx hb dX7_passesOne_87 (lv_at hl 0 rfl) ?_
    refine x_ladd hx hb dX7_passesOne_89 ?_
    refine m_s_s S hK hM hI hS (by omega) dX7_passesOne_90 (fun H locs hM hS => ?_)
    have hM : mAt D cs a (pOneC σ q k) pa sl sv pd kn ln H := mAt_cong hM (by unfold pOneC pOneI; first | rw [if_pos c_76] | rw [if_neg c_76]) rfl rfl rfl rfl rfl rfl
    refine lv_aload_n hx hb dX7_passesOne_91 rfl (lv_at hl 4 rfl) ?_
    refine m_g_s S hin7 hK hM (hts (.fieldLink RX7 7 "EnergyDiscsModel" "s" "[J") (by decide +kernel)) dX7_passesOne_92 ?_
    refine lv_iload_n hx hb dX7_passesOne_95 rfl (lv_at hl 3 rfl) ?_
    refine x_bipush hx hb dX7_passesOne_96 (by decide +kernel) ?_
    refine x_iadd hx hb dX7_passesOne_98 ?_
    refine lv_dup2_11 hx hb dX7_passesOne_99 rfl rfl ?_
    refine m_l_s S hK hM (by omega) dX7_passesOne_100 ?_
    refine x_lconst (v := 1) hx hb dX7_passesOne_101 rfl ?_
    refine x_ladd hx hb dX7_passesOne_102 ?_
    refine m_s_s S hK hM hI hS (by omega) dX7_passesOne_103 (fun H locs hM hS => ?_)
    have hM : mAt D cs a (pOneD σ q k) pa sl sv pd kn ln H := hM
    have hD9 : pOneD σ q k (q + 11 + 13 * k + 9) = σ (q + 11 + 13 * k + 9) + 1 := pOneD_9 hq
    have hD3 : pOneD σ q k (q + 3) = σ (q + 3) := pOneD_n hq (by omega) (by omega)
    refine lv_aload_n hx hb dX7_passesOne_104 rfl (lv_at hl 4 rfl) ?_
    refine m_g_s S hin7 hK hM (hts (.fieldLink RX7 7 "EnergyDiscsModel" "s" "[J") (by decide +kernel)) dX7_passesOne_105 ?_
    refine lv_iload_n hx hb dX7_passesOne_108 rfl (lv_at hl 3 rfl) ?_
    refine x_bipush hx hb dX7_passesOne_109 (by decide +kernel) ?_
    refine x_iadd hx hb dX7_passesOne_111 ?_
    refine m_l_s S hK hM (by omega) dX7_passesOne_112 ?_
    refine lv_aload_n hx hb dX7_passesOne_113 rfl (lv_at hl 4 rfl) ?_
    refine m_g_s S hin7 hK hM (hts (.fieldLink RX7 7 "EnergyDiscsModel" "s" "[J") (by decide +kernel)) dX7_passesOne_114 ?_
    refine lv_iload_n hx hb dX7_passesOne_117 rfl (lv_at hl 5 rfl) ?_
    refine x_iconst hx hb dX7_passesOne_118 ?_
    refine x_iadd hx hb dX7_passesOne_119 ?_
    refine m_l_s S hK hM (by omega) dX7_passesOne_120 ?_
    refine x_lcmp_lt (tgt := 166) hx hb dX7_passesOne_121 dX7_passesOne_122 (by decide) (by omega) (by omega) (fun c_121 => ?_) (fun c_121 => ?_)
    · refine lv_lload hx hb dX7_passesOne_166 (lv_at hl 0 rfl) ?_
      refine x_l2i hx hb dX7_passesOne_168 ?_
      exact x_iretM hx hb hr hlocks (by first | rfl | omega) (mAt_cong hM (by unfold pOne; first | rw [if_pos (by assumption)] | (rw [if_neg (by assumption)]; first | rw [if_pos (by omega)] | rw [if_neg (by omega)])) rfl rfl rfl rfl rfl rfl) hS dX7_passesOne_169
    · refine lv_aload_n hx hb dX7_passesOne_125 rfl (lv_at hl 4 rfl) ?_
      refine m_g_s S hin7 hK hM (hts (.fieldLink RX7 7 "EnergyDiscsModel" "s" "[J") (by decide +kernel)) dX7_passesOne_126 ?_
      refine lv_iload_n hx hb dX7_passesOne_129 rfl (lv_at hl 3 rfl) ?_
      refine x_bipush hx hb dX7_passesOne_130 (by decide +kernel) ?_
      refine x_iadd hx hb dX7_passesOne_132 ?_
      refine x_lconst (v := 0) hx hb dX7_passesOne_133 rfl ?_
      refine m_s_s S hK hM hI hS (by omega) dX7_passesOne_134 (fun H locs hM hS => ?_)
      have hM : mAt D cs a (pOneE σ q k) pa sl sv pd kn ln H := hM
      have hE2 : pOneE σ q k (q + 11 + 13 * k + 2) = σ (q + 11 + 13 * k + 2) := (up_n (by omega)).trans (pOneD_2 hq)
      refine lv_aload_n hx hb dX7_passesOne_135 rfl (lv_at hl 4 rfl) ?_
      refine m_g_s S hin7 hK hM (hts (.fieldLink RX7 7 "EnergyDiscsModel" "s" "[J") (by decide +kernel)) dX7_passesOne_136 ?_
      refine lv_iload_n hx hb dX7_passesOne_139 rfl (lv_at hl 3 rfl) ?_
      refine x_iconst hx hb dX7_passesOne_140 ?_
      refine x_iadd hx hb dX7_passesOne_141 ?_
      refine lv_dup2_11 hx hb dX7_passesOne_142 rfl rfl ?_
      refine m_l_s S hK hM (by omega) dX7_passesOne_143 ?_
      refine lv_aload_n hx hb dX7_passesOne_144 rfl (lv_at hl 4 rfl) ?_
      refine m_g_s S hin7 hK hM (hts (.fieldLink RX7 7 "EnergyDiscsModel" "s" "[J") (by decide +kernel)) dX7_passesOne_145 ?_
      refine lv_iload_n hx hb dX7_passesOne_148 rfl (lv_at hl 3 rfl) ?_
      refine x_iconst hx hb dX7_passesOne_149 ?_
      refine x_iadd hx hb dX7_passesOne_150 ?_
      refine m_l_s S hK hM (by omega) dX7_passesOne_151 ?_
      refine x_ldc2 (v := 160) hx hb hown (hts (.constantLong RX7 81 (zL 160)) (by decide +kernel)) dX7_passesOne_152 ?_
      refine x_lcmp_ge (tgt := 163) hx hb dX7_passesOne_155 dX7_passesOne_156 (by decide) (by omega) (by omega) (fun c_155 => ?_) (fun c_155 => ?_)
      · refine x_lconst (v := 0) hx hb dX7_passesOne_163 rfl ?_
        refine x_ladd hx hb dX7_passesOne_164 ?_
        refine m_s_s S hK hM hI hS (by omega) dX7_passesOne_165 (fun H locs hM hS => ?_)
        refine lv_lload hx hb dX7_passesOne_166 (lv_at hl 0 rfl) ?_
        refine x_l2i hx hb dX7_passesOne_168 ?_
        exact x_iretM hx hb hr hlocks (by first | rfl | omega) (mAt_cong hM (by unfold pOne; first | rw [if_pos (by assumption)] | (rw [if_neg (by assumption)]; first | rw [if_pos (by omega)] | rw [if_neg (by omega)])) rfl rfl rfl rfl rfl rfl) hS dX7_passesOne_169
      · refine x_lconst (v := 1) hx hb dX7_passesOne_159 rfl ?_
        refine lv_goto (tgt := 164) hx hb dX7_passesOne_160 (by decide) ?_
        refine x_ladd hx hb dX7_passesOne_164 ?_
        refine m_s_s S hK hM hI hS (by omega) dX7_passesOne_165 (fun H locs hM hS => ?_)
        refine lv_lload hx hb dX7_passesOne_166 (lv_at hl 0 rfl) ?_
        refine x_l2i hx hb dX7_passesOne_168 ?_
        exact x_iretM hx hb hr hlocks (by first | rfl | omega) (mAt_cong hM (by unfold pOne; first | rw [if_pos (by assumption)] | (rw [if_neg (by assumption)]; first | rw [if_pos (by omega)] | rw [if_neg (by omega)])) rfl rfl rfl rfl rfl rfl) hS dX7_passesOne_169
