set_option maxHeartbeats 4000000 in
set_option maxRecDepth 100000 in
theorem c_X7_remembers (l : Launch) (D : va_G) (cs : Nat → ClassId) (a : Int → Nat) (σ : Int → Int) (pa : Int → Int) (sl : Int → Int) (sv : Int → Int) (pd : Int → Int) (kn : Int) (ln : Int) (hn : 0 ≤ kn ∧ kn ≤ 6) (hI : mI a) : kM D cs l yX7_remembers wsX7_remembers ({ frames := 0, cells := 0, slots := 0, locals := 0 } : Room) [.ref (a 0)] (fun H => mAt D cs a σ pa sl sv pd kn ln H) none (fun H => mAt D cs a σ (remP σ pa kn) sl sv pd (remK kn) ln H) (mC a) := by
  refine Met.ofW (cc := cX7_remembers) (maxL := 2) (ret := none) (by decide) rfl ?_
  intro p e s m args below meth c s₁ B hml hv
  obtain ⟨rfl, hK, hM⟩ := hv
  have hx := B.exec
  have hb := B.bytes
  have hr := B.returns
  have hts := atoms_spec (ws := wsX7_remembers) B.pre
  have hown : s.vm.findClass RX7 = some m.cls := findClass_of_methodNamed B.named
  have hlocks := B.notSynchronized
  have S : CallFix p m c cX7_remembers 2 s (([.ref (a 0)] : List Value)).toArray wsX7_remembers RX7 := ⟨hx, hb, hml, hown, hts⟩
  have hin7 : ∀ w ∈ wsX70, w ∈ wsX7_remembers := by decide +kernel
  have hS : va_S (mC a) s.heap s.heap [] := va_S.rf
  have hl := lv_entry ([.ref (a 0)]) (n := 2) (Nat.le_of_ble_eq_true rfl)
  rw [lg_entry_eq]
  generalize (lg_sl ([.ref (a 0)]) ++ List.replicate (2 - (lg_sl ([.ref (a 0)])).length) Slot.unset).toArray = ls at hl ⊢
  have hl : lv_has ls 2 [(0, .ref (a 0))] := hl
  refine lv_aload_n hx hb dX7_remembers_0 rfl (lv_at hl 0 rfl) ?_
  refine m_g_known S hin7 hK hM (hts (.fieldLink RX7 49 "EnergyDiscsModel" "known" "I") (by decide +kernel)) dX7_remembers_1 ?_
  refine x_bipush hx hb dX7_remembers_4 (by decide +kernel) ?_
  refine x_icmp_ne (tgt := 50) hx hb dX7_remembers_6 (by decide) (by omega) (by omega) (fun c_6 => ?_) (fun c_6 => ?_)
  · have hM : mAt D cs a σ (remO pa kn) sl sv pd kn ln s.heap := mAt_cong hM rfl (by unfold remO; first | (rw [if_pos c_6, hP, hj690]) | (rw [if_neg c_6])) rfl rfl rfl rfl rfl
    have hM : mAt D cs a σ (remO pa kn) sl sv pd (remQ kn) ln s.heap := mAt_cong hM rfl rfl rfl rfl rfl (by unfold remQ; first | (rw [if_pos c_6]; omega) | (rw [if_neg c_6])) rfl
    refine x_iconst hx hb dX7_remembers_50 ?_
    refine lv_istore_n (lv' := [(1, .int (zI 0)), (0, .ref (a 0))]) hx hb dX7_remembers_51 rfl hl (by decide) rfl (fun ls hl => ?_)
    have lp52 : ∀ (n : Nat) (j : Int) (P : Int → Int), (138 - j).toNat < n → 0 ≤ j ∧ j ≤ 138 → P = cpN (remO pa kn) σ (138 * remQ kn) j → ∀ (H : Heap) (locs : List Loc), mAt D cs a σ P sl sv pd (remQ kn) ln H → va_S (mC a) s.heap H locs → ∀ (ls : Array Slot), lv_has ls 2 [(1, .int (zI j)), (0, .ref (a 0))] → W p l e (headSpec wsX7_remembers ({ frames := 0, cells := 0, slots := 0, locals := 0 } : Room)).room s m ([.ref (a 0)] : List Value).toArray below meth c H locs 0 0 (MQ below (kQ none (fun H => mAt D cs a σ (remP σ pa kn) sl sv pd (remK kn) ln H) (mC a)) ([.ref (a 0)] : List Value).toArray s 0 0 (mC a)) (F0 m 52 ls []) := by
      intro n
      induction n with
      | zero => intro j P hms; exact absurd hms (Nat.not_lt_zero _)
      | succ n ih =>
        intro j P hms hj hP H locs hM hS ls hl
        have ih52 := ih
        clear ih
        have hq := show 0 ≤ remQ kn ∧ remQ kn ≤ 5 from by unfold remQ; split <;> omega
        refine lv_iload_n hx hb dX7_remembers_52 rfl (lv_at hl 0 rfl) ?_
        refine x_sipush hx hb dX7_remembers_53 (by decide +kernel) ?_
        refine x_icmp_ge (tgt := 86) hx hb dX7_remembers_56 (by decide) (by omega) (by omega) (fun c_56 => ?_) (fun c_56 => ?_)
        · refine lv_aload_n hx hb dX7_remembers_86 rfl (lv_at hl 1 rfl) ?_
          refine lv_dup hx hb dX7_remembers_87 rfl ?_
          refine m_g_known S hin7 hK hM (hts (.fieldLink RX7 49 "EnergyDiscsModel" "known" "I") (by decide +kernel)) dX7_remembers_88 ?_
          refine x_iconst hx hb dX7_remembers_91 ?_
          refine x_iadd hx hb dX7_remembers_92 ?_
          refine m_p_known S hin7 hK hM hI hS (hts (.fieldLink RX7 49 "EnergyDiscsModel" "known" "I") (by decide +kernel)) dX7_remembers_93 (fun H locs hM hS => ?_)
          exact x_vretM hx hb hr hlocks (mAt_cong hM rfl (by rw [hP, show j = 138 by omega]; rfl) rfl rfl rfl (by rfl) rfl) hS dX7_remembers_96
        · refine lv_aload_n hx hb dX7_remembers_59 rfl (lv_at hl 1 rfl) ?_
          refine m_g_past S hin7 hK hM (hts (.fieldLink RX7 13 "EnergyDiscsModel" "past" "[J") (by decide +kernel)) dX7_remembers_60 ?_
          refine x_sipush hx hb dX7_remembers_63 (by decide +kernel) ?_
          refine lv_aload_n hx hb dX7_remembers_66 rfl (lv_at hl 1 rfl) ?_
          refine m_g_known S hin7 hK hM (hts (.fieldLink RX7 49 "EnergyDiscsModel" "known" "I") (by decide +kernel)) dX7_remembers_67 ?_
          refine x_imul hx hb dX7_remembers_70 ?_
          refine lv_iload_n hx hb dX7_remembers_71 rfl (lv_at hl 0 rfl) ?_
          refine x_iadd hx hb dX7_remembers_72 ?_
          refine lv_aload_n hx hb dX7_remembers_73 rfl (lv_at hl 1 rfl) ?_
          refine m_g_s S hin7 hK hM (hts (.fieldLink RX7 7 "EnergyDiscsModel" "s" "[J") (by decide +kernel)) dX7_remembers_74 ?_
          refine lv_iload_n hx hb dX7_remembers_77 rfl (lv_at hl 0 rfl) ?_
          refine m_l_s S hK hM (by omega) dX7_remembers_78 ?_
          refine m_s_past S hK hM hI hS (by omega) dX7_remembers_79 (fun H locs hM hS => ?_)
          refine x_iinc (x := j) (lv' := [(1, .int (zI (j + 1))), (0, .ref (a 0))]) hx hb dX7_remembers_80 hl (k := 0) rfl (by decide) rfl (fun ls hl => ?_)
          refine lv_goto (tgt := 52) hx hb dX7_remembers_83 (by decide) ?_
          exact ih52 (j + 1) (up P ((138 * (remQ kn)) + j) (σ j)) (by omega) (by omega) (by subst hP; exact cpN_step rfl rfl hj.1) H locs hM hS ls (lv_sub hl [0, 1] rfl)
    exact lp52 ((138 - (0 : Int)).toNat + 1) 0 (remO pa kn) (Nat.lt_succ_self _) (by omega) (by exact (cpN_0 _ _ _).symm) s.heap [] hM hS ls (lv_sub hl [0, 1] rfl)
  · refine x_iconst hx hb dX7_remembers_9 ?_
    refine lv_istore_n (lv' := [(1, .int (zI 0)), (0, .ref (a 0))]) hx hb dX7_remembers_10 rfl hl (by decide) rfl (fun ls hl => ?_)
    have lp11 : ∀ (n : Nat) (j : Int) (P : Int → Int), (690 - j).toNat < n → 0 ≤ j ∧ j ≤ 690 → P = cpN pa (fun i => pa (138 + i)) 0 j → ∀ (H : Heap) (locs : List Loc), mAt D cs a σ P sl sv pd kn ln H → va_S (mC a) s.heap H locs → ∀ (ls : Array Slot), lv_has ls 2 [(1, .int (zI j)), (0, .ref (a 0))] → W p l e (headSpec wsX7_remembers ({ frames := 0, cells := 0, slots := 0, locals := 0 } : Room)).room s m ([.ref (a 0)] : List Value).toArray below meth c H locs 0 0 (MQ below (kQ none (fun H => mAt D cs a σ (remP σ pa kn) sl sv pd (remK kn) ln H) (mC a)) ([.ref (a 0)] : List Value).toArray s 0 0 (mC a)) (F0 m 11 ls []) := by
      intro n
      induction n with
      | zero => intro j P hms; exact absurd hms (Nat.not_lt_zero _)
      | succ n ih =>
        intro j P hms hj hP H locs hM hS ls hl
        have ih11 := ih
        clear ih
        refine lv_iload_n hx hb dX7_remembers_11 rfl (lv_at hl 0 rfl) ?_
        refine x_sipush hx hb dX7_remembers_12 (by decide +kernel) ?_
        refine x_icmp_ge (tgt := 40) hx hb dX7_remembers_15 (by decide) (by omega) (by omega) (fun c_15 => ?_) (fun c_15 => ?_)
        · have hj690 : j = 690 := by omega
          refine lv_aload_n hx hb dX7_remembers_40 rfl (lv_at hl 1 rfl) ?_
          refine lv_dup hx hb dX7_remembers_41 rfl ?_
          refine m_g_known S hin7 hK hM (hts (.fieldLink RX7 49 "EnergyDiscsModel" "known" "I") (by decide +kernel)) dX7_remembers_42 ?_
          refine x_iconst hx hb dX7_remembers_45 ?_
          refine x_isub hx hb dX7_remembers_46 ?_
          refine m_p_known S hin7 hK hM hI hS (hts (.fieldLink RX7 49 "EnergyDiscsModel" "known" "I") (by decide +kernel)) dX7_remembers_47 (fun H locs hM hS => ?_)
          have hM : mAt D cs a σ (remO pa kn) sl sv pd (kn - 1) ln H := mAt_cong hM rfl (by unfold remO; first | (rw [if_pos c_6, hP, hj690]) | (rw [if_neg c_6])) rfl rfl rfl rfl rfl
          have hM : mAt D cs a σ (remO pa kn) sl sv pd (remQ kn) ln H := mAt_cong hM rfl rfl rfl rfl rfl (by unfold remQ; first | (rw [if_pos c_6]; omega) | (rw [if_neg c_6])) rfl
          refine x_iconst hx hb dX7_remembers_50 ?_
          refine lv_istore_n (lv' := [(1, .int (zI 0)), (0, .ref (a 0))]) hx hb dX7_remembers_51 rfl hl (by decide) rfl (fun ls hl => ?_)
          have lp52 : ∀ (n : Nat) (j : Int) (P : Int → Int), (138 - j).toNat < n → 0 ≤ j ∧ j ≤ 138 → P = cpN (remO pa kn) σ (138 * remQ kn) j → ∀ (H : Heap) (locs : List Loc), mAt D cs a σ P sl sv pd (remQ kn) ln H → va_S (mC a) s.heap H locs → ∀ (ls : Array Slot), lv_has ls 2 [(1, .int (zI j)), (0, .ref (a 0))] → W p l e (headSpec wsX7_remembers ({ frames := 0, cells := 0, slots := 0, locals := 0 } : Room)).room s m ([.ref (a 0)] : List Value).toArray below meth c H locs 0 0 (MQ below (kQ none (fun H => mAt D cs a σ (remP σ pa kn) sl sv pd (remK kn) ln H) (mC a)) ([.ref (a 0)] : List Value).toArray s 0 0 (mC a)) (F0 m 52 ls []) := by
            intro n
            induction n with
            | zero => intro j P hms; exact absurd hms (Nat.not_lt_zero _)
            | succ n ih =>
              intro j P hms hj hP H locs hM hS ls hl
              have ih52 := ih
              clear ih
              have hq := show 0 ≤ remQ kn ∧ remQ kn ≤ 5 from by unfold remQ; split <;> omega
              refine lv_iload_n hx hb dX7_remembers_52 rfl (lv_at hl 0 rfl) ?_
              refine x_sipush hx hb dX7_remembers_53 (by decide +kernel) ?_
              refine x_icmp_ge (tgt := 86) hx hb dX7_remembers_56 (by decide) (by omega) (by omega) (fun c_56 => ?_) (fun c_56 => ?_)
              · refine lv_aload_n hx hb dX7_remembers_86 rfl (lv_at hl 1 rfl) ?_
                refine lv_dup hx hb dX7_remembers_87 rfl ?_
                refine m_g_known S hin7 hK hM (hts (.fieldLink RX7 49 "EnergyDiscsModel" "known" "I") (by decide +kernel)) dX7_remembers_88 ?_
                refine x_iconst hx hb dX7_remembers_91 ?_
                refine x_iadd hx hb dX7_remembers_92 ?_
                refine m_p_known S hin7 hK hM hI hS (hts (.fieldLink RX7 49 "EnergyDiscsModel" "known" "I") (by decide +kernel)) dX7_remembers_93 (fun H locs hM hS => ?_)
                exact x_vretM hx hb hr hlocks (mAt_cong hM rfl (by rw [hP, show j = 138 by omega]; rfl) rfl rfl rfl (by rfl) rfl) hS dX7_remembers_96
              · refine lv_aload_n hx hb dX7_remembers_59 rfl (lv_at hl 1 rfl) ?_
                refine m_g_past S hin7 hK hM (hts (.fieldLink RX7 13 "EnergyDiscsModel" "past" "[J") (by decide +kernel)) dX7_remembers_60 ?_
                refine x_sipush hx hb dX7_remembers_63 (by decide +kernel) ?_
                refine lv_aload_n hx hb dX7_remembers_66 rfl (lv_at hl 1 rfl) ?_
                refine m_g_known S hin7 hK hM (hts (.fieldLink RX7 49 "EnergyDiscsModel" "known" "I") (by decide +kernel)) dX7_remembers_67 ?_
                refine x_imul hx hb dX7_remembers_70 ?_
                refine lv_iload_n hx hb dX7_remembers_71 rfl (lv_at hl 0 rfl) ?_
                refine x_iadd hx hb dX7_remembers_72 ?_
                refine lv_aload_n hx hb dX7_remembers_73 rfl (lv_at hl 1 rfl) ?_
                refine m_g_s S hin7 hK hM (hts (.fieldLink RX7 7 "EnergyDiscsModel" "s" "[J") (by decide +kernel)) dX7_remembers_74 ?_
                refine lv_iload_n hx hb dX7_remembers_77 rfl (lv_at hl 0 rfl) ?_
                refine m_l_s S hK hM (by omega) dX7_remembers_78 ?_
                refine m_s_past S hK hM hI hS (by omega) dX7_remembers_79 (fun H locs hM hS => ?_)
                refine x_iinc (x := j) (lv' := [(1, .int (zI (j + 1))), (0, .ref (a 0))]) hx hb dX7_remembers_80 hl (k := 0) rfl (by decide) rfl (fun ls hl => ?_)
                refine lv_goto (tgt := 52) hx hb dX7_remembers_83 (by decide) ?_
                exact ih52 (j + 1) (up P ((138 * (remQ kn)) + j) (σ j)) (by omega) (by omega) (by subst hP; exact cpN_step rfl rfl hj.1) H locs hM hS ls (lv_sub hl [0, 1] rfl)
          exact lp52 ((138 - (0 : Int)).toNat + 1) 0 (remO pa kn) (Nat.lt_succ_self _) (by omega) (by exact (cpN_0 _ _ _).symm) H locs hM hS ls (lv_sub hl [0, 1] rfl)
        · refine lv_aload_n hx hb dX7_remembers_18 rfl (lv_at hl 1 rfl) ?_
          refine m_g_past S hin7 hK hM (hts (.fieldLink RX7 13 "EnergyDiscsModel" "past" "[J") (by decide +kernel)) dX7_remembers_19 ?_
          refine lv_iload_n hx hb dX7_remembers_22 rfl (lv_at hl 0 rfl) ?_
          refine lv_aload_n hx hb dX7_remembers_23 rfl (lv_at hl 1 rfl) ?_
          refine m_g_past S hin7 hK hM (hts (.fieldLink RX7 13 "EnergyDiscsModel" "past" "[J") (by decide +kernel)) dX7_remembers_24 ?_
          refine x_sipush hx hb dX7_remembers_27 (by decide +kernel) ?_
          refine lv_iload_n hx hb dX7_remembers_30 rfl (lv_at hl 0 rfl) ?_
          refine x_iadd hx hb dX7_remembers_31 ?_
          refine m_l_past S hK hM (by omega) dX7_remembers_32 ?_
          refine m_s_past S hK hM hI hS (by omega) dX7_remembers_33 (fun H locs hM hS => ?_)
          refine x_iinc (x := j) (lv' := [(1, .int (zI (j + 1))), (0, .ref (a 0))]) hx hb dX7_remembers_34 hl (k := 0) rfl (by decide) rfl (fun ls hl => ?_)
          refine lv_goto (tgt := 11) hx hb dX7_remembers_37 (by decide) ?_
          exact ih11 (j + 1) (up P j (P (138 + j))) (by omega) (by omega) (by subst hP; exact cpN_step (by omega) (cpN_out (by omega)) hj.1) H locs hM hS ls (lv_sub hl [0, 1] rfl)
    exact lp11 ((690 - (0 : Int)).toNat + 1) 0 pa (Nat.lt_succ_self _) (by omega) (by exact (cpN_0 _ _ _).symm) s.heap [] hM hS ls (lv_sub hl [0, 1] rfl)
set_option maxHeartbeats 4000000 in
set_option maxRecDepth 100000 in
theorem c_X7_copies (l : Launch) (D : va_G) (cs : Nat → ClassId) (a : Int → Nat) (σ : Int → Int) (pa : Int → Int) (sl : Int → Int) (sv : Int → Int) (pd : Int → Int) (kn : Int) (ln : Int) (hI : mI a) : kM D cs l yX7_copies wsX7_copies ({ frames := 0, cells := 0, slots := 0, locals := 0 } : Room) [.ref (a 0)] (fun H => mAt D cs a σ pa sl sv pd kn ln H) none (fun H => mAt D cs a (cpN σ σ 138 138) pa sl sv pd kn ln H) (mC a) := by
  refine Met.ofW (cc := cX7_copies) (maxL := 2) (ret := none) (by decide) rfl ?_
  intro p e s m args below meth c s₁ B hml hv
  obtain ⟨rfl, hK, hM⟩ := hv
  have hx := B.exec
  have hb := B.bytes
  have hr := B.returns
  have hts := atoms_spec (ws := wsX7_copies) B.pre
  have hown : s.vm.findClass RX7 = some m.cls := findClass_of_methodNamed B.named
  have hlocks := B.notSynchronized
  have S : CallFix p m c cX7_copies 2 s (([.ref (a 0)] : List Value)).toArray wsX7_copies RX7 := ⟨hx, hb, hml, hown, hts⟩
  have hin7 : ∀ w ∈ wsX70, w ∈ wsX7_copies := by decide +kernel
  have hS : va_S (mC a) s.heap s.heap [] := va_S.rf
  have hl := lv_entry ([.ref (a 0)]) (n := 2) (Nat.le_of_ble_eq_true rfl)
  rw [lg_entry_eq]
  generalize (lg_sl ([.ref (a 0)]) ++ List.replicate (2 - (lg_sl ([.ref (a 0)])).length) Slot.unset).toArray = ls at hl ⊢
  have hl : lv_has ls 2 [(0, .ref (a 0))] := hl
  refine x_iconst hx hb dX7_copies_0 ?_
  refine lv_istore_n (lv' := [(1, .int (zI 0)), (0, .ref (a 0))]) hx hb dX7_copies_1 rfl hl (by decide) rfl (fun ls hl => ?_)
  have lp2 : ∀ (n : Nat) (j : Int) (P : Int → Int), (138 - j).toNat < n → 0 ≤ j ∧ j ≤ 138 → P = cpN σ σ 138 j → ∀ (H : Heap) (locs : List Loc), mAt D cs a P pa sl sv pd kn ln H → va_S (mC a) s.heap H locs → ∀ (ls : Array Slot), lv_has ls 2 [(1, .int (zI j)), (0, .ref (a 0))] → W p l e (headSpec wsX7_copies ({ frames := 0, cells := 0, slots := 0, locals := 0 } : Room)).room s m ([.ref (a 0)] : List Value).toArray below meth c H locs 0 0 (MQ below (kQ none (fun H => mAt D cs a (cpN σ σ 138 138) pa sl sv pd kn ln H) (mC a)) ([.ref (a 0)] : List Value).toArray s 0 0 (mC a)) (F0 m 2 ls []) := by
    intro n
    induction n with
    | zero => intro j P hms; exact absurd hms (Nat.not_lt_zero _)
    | succ n ih =>
      intro j P hms hj hP H locs hM hS ls hl
      have ih2 := ih
      clear ih
      refine lv_iload_n hx hb dX7_copies_2 rfl (lv_at hl 0 rfl) ?_
      refine x_sipush hx hb dX7_copies_3 (by decide +kernel) ?_
      refine x_icmp_ge (tgt := 31) hx hb dX7_copies_6 (by decide) (by omega) (by omega) (fun c_6 => ?_) (fun c_6 => ?_)
      · exact x_vretM hx hb hr hlocks (mAt_cong hM (by rw [hP, show j = 138 by omega]) rfl rfl rfl rfl rfl rfl) hS dX7_copies_31
      · refine lv_aload_n hx hb dX7_copies_9 rfl (lv_at hl 1 rfl) ?_
        refine m_g_s S hin7 hK hM (hts (.fieldLink RX7 7 "EnergyDiscsModel" "s" "[J") (by decide +kernel)) dX7_copies_10 ?_
        refine x_sipush hx hb dX7_copies_13 (by decide +kernel) ?_
        refine lv_iload_n hx hb dX7_copies_16 rfl (lv_at hl 0 rfl) ?_
        refine x_iadd hx hb dX7_copies_17 ?_
        refine lv_aload_n hx hb dX7_copies_18 rfl (lv_at hl 1 rfl) ?_
        refine m_g_s S hin7 hK hM (hts (.fieldLink RX7 7 "EnergyDiscsModel" "s" "[J") (by decide +kernel)) dX7_copies_19 ?_
        refine lv_iload_n hx hb dX7_copies_22 rfl (lv_at hl 0 rfl) ?_
        refine m_l_s S hK hM (by omega) dX7_copies_23 ?_
        refine m_s_s S hK hM hI hS (by omega) dX7_copies_24 (fun H locs hM hS => ?_)
        refine x_iinc (x := j) (lv' := [(1, .int (zI (j + 1))), (0, .ref (a 0))]) hx hb dX7_copies_25 hl (k := 0) rfl (by decide) rfl (fun ls hl => ?_)
        refine lv_goto (tgt := 2) hx hb dX7_copies_28 (by decide) ?_
        exact ih2 (j + 1) (up P (138 + j) (P j)) (by omega) (by omega) (by subst hP; exact cpN_step rfl (cpN_out (by omega)) hj.1) H locs hM hS ls (lv_sub hl [0, 1] rfl)
  exact lp2 ((138 - (0 : Int)).toNat + 1) 0 σ (Nat.lt_succ_self _) (by omega) (by exact (cpN_0 _ _ _).symm) s.heap [] hM hS ls (lv_sub hl [0, 1] rfl)
set_option maxHeartbeats 4000000 in
set_option maxRecDepth 100000 in
theorem c_X7_passes (l : Launch) (D : va_G) (cs : Nat → ClassId) (a : Int → Nat) (σ : Int → Int) (pa : Int → Int) (sl : Int → Int) (sv : Int → Int) (pd : Int → Int) (kn : Int) (ln : Int) (q : Int) (w : Int) (hq : q = 0 ∨ q = 138) (hG : gOK σ q) (hw : 0 ≤ w ∧ w ≤ 100000) (ht : σ (q + 6) + w < 1000000) (hI : mI a) : kM D cs l yX7_passes wsX7_passes ({ frames := 5, cells := 0, slots := 0, locals := 118 } : Room) [.ref (a 0), .int (zI q), .int (zI w)] (fun H => mAt D cs a σ pa sl sv pd kn ln H) (some (.int (zI (tMins σ q w.toNat)))) (fun H => mAt D cs a (pMins σ q w.toNat) pa sl sv pd kn ln H) (mC a) := by
  refine Met.ofW (cc := cX7_passes) (maxL := 6) (ret := (some .int)) (by decide) rfl ?_
  intro p e s m args below meth c s₁ B hml hv
  obtain ⟨rfl, hK, hM⟩ := hv
  have hx := B.exec
  have hb := B.bytes
  have hr := B.returns
  have hts := atoms_spec (ws := wsX7_passes) B.pre
  have hown : s.vm.findClass RX7 = some m.cls := findClass_of_methodNamed B.named
  have hlocks := B.notSynchronized
  have S : CallFix p m c cX7_passes 6 s (([.ref (a 0), .int (zI q), .int (zI w)] : List Value)).toArray wsX7_passes RX7 := ⟨hx, hb, hml, hown, hts⟩
  have hin7 : ∀ w ∈ wsX70, w ∈ wsX7_passes := by decide +kernel
  have hS : va_S (mC a) s.heap s.heap [] := va_S.rf
  have hl := lv_entry ([.ref (a 0), .int (zI q), .int (zI w)]) (n := 6) (Nat.le_of_ble_eq_true rfl)
  rw [lg_entry_eq]
  generalize (lg_sl ([.ref (a 0), .int (zI q), .int (zI w)]) ++ List.replicate (6 - (lg_sl ([.ref (a 0), .int (zI q), .int (zI w)])).length) Slot.unset).toArray = ls at hl ⊢
  have hl : lv_has ls 6 [(0, .ref (a 0)), (1, .int (zI q)), (2, .int (zI w))] := hl
  refine x_iconst hx hb dX7_passes_0 ?_
  refine lv_istore_n (lv' := [(3, .int (zI 0)), (0, .ref (a 0)), (1, .int (zI q)), (2, .int (zI w))]) hx hb dX7_passes_1 rfl hl (by decide) rfl (fun ls hl => ?_)
  refine x_iconst hx hb dX7_passes_2 ?_
  refine lv_istore (lv' := [(4, .int (zI 0)), (3, .int (zI 0)), (0, .ref (a 0)), (1, .int (zI q)), (2, .int (zI w))]) hx hb dX7_passes_3 hl (by decide) rfl (fun ls hl => ?_)
  have lp5 : ∀ (n : Nat) (t : Int) (r : Int) (σ1 : Int → Int) (t0 : Nat), (w - t).toNat < n → t = (t0 : Int) → t ≤ w → r = tMins σ q t0 → σ1 = pMins σ q t0 → gOK σ1 q → σ1 (q + 6) = σ (q + 6) + t → ∀ (H : Heap) (locs : List Loc), mAt D cs a σ1 pa sl sv pd kn ln H → va_S (mC a) s.heap H locs → ∀ (ls : Array Slot), lv_has ls 6 [(4, .int (zI t)), (3, .int (zI r)), (0, .ref (a 0)), (1, .int (zI q)), (2, .int (zI w))] → W p l e (headSpec wsX7_passes ({ frames := 5, cells := 0, slots := 0, locals := 118 } : Room)).room s m ([.ref (a 0), .int (zI q), .int (zI w)] : List Value).toArray below meth c H locs 0 0 (MQ below (kQ (some (.int (zI (tMins σ q w.toNat)))) (fun H => mAt D cs a (pMins σ q w.toNat) pa sl sv pd kn ln H) (mC a)) ([.ref (a 0), .int (zI q), .int (zI w)] : List Value).toArray s 0 0 (mC a)) (F0 m 5 ls []) := by
    intro n
    induction n with
    | zero => intro t r σ1 t0 hms; exact absurd hms (Nat.not_lt_zero _)
    | succ n ih =>
      intro t r σ1 t0 hms i1 i0 i2 i3 i4 i6 H locs hM hS ls hl
      have ih5 := ih
      clear ih
      refine lv_iload hx hb dX7_passes_5 (lv_at hl 0 rfl) ?_
      refine lv_iload_n hx hb dX7_passes_7 rfl (lv_at hl 4 rfl) ?_
      refine x_icmp_ge (tgt := 60) hx hb dX7_passes_8 (by decide) (by omega) (by omega) (fun c_8 => ?_) (fun c_8 => ?_)
      · refine lv_iload_n hx hb dX7_passes_60 rfl (lv_at hl 1 rfl) ?_
        exact x_iretM hx hb hr hlocks (by rw [i2, show w.toNat = t0 by omega]) (mAt_cong hM (by rw [i3, show w.toNat = t0 by omega]) rfl rfl rfl rfl rfl rfl) hS dX7_passes_61
      · refine x_iconst hx hb dX7_passes_11 ?_
        refine lv_istore (lv' := [(5, .int (zI 0)), (4, .int (zI t)), (3, .int (zI r)), (0, .ref (a 0)), (1, .int (zI q)), (2, .int (zI w))]) hx hb dX7_passes_12 hl (by decide) rfl (fun ls hl => ?_)
        have lp14 : ∀ (n : Nat) (k : Int) (r2 : Int) (σ2 : Int → Int) (k0 : Nat), (σ1 7 - k).toNat < n → k = (k0 : Int) → k ≤ σ1 7 → r2 = r + tRow σ1 q k0 → σ2 = pRow σ1 q k0 → gOK σ2 q → σ2 7 = σ1 7 → σ2 (q + 6) = σ1 (q + 6) → ∀ (H : Heap) (locs : List Loc), mAt D cs a σ2 pa sl sv pd kn ln H → va_S (mC a) s.heap H locs → ∀ (ls : Array Slot), lv_has ls 6 [(5, .int (zI k)), (4, .int (zI t)), (3, .int (zI r2)), (0, .ref (a 0)), (1, .int (zI q)), (2, .int (zI w))] → W p l e (headSpec wsX7_passes ({ frames := 5, cells := 0, slots := 0, locals := 118 } : Room)).room s m ([.ref (a 0), .int (zI q), .int (zI w)] : List Value).toArray below meth c H locs 0 0 (MQ below (kQ (some (.int (zI (tMins σ q w.toNat)))) (fun H => mAt D cs a (pMins σ q w.toNat) pa sl sv pd kn ln H) (mC a)) ([.ref (a 0), .int (zI q), .int (zI w)] : List Value).toArray s 0 0 (mC a)) (F0 m 14 ls []) := by
          intro n
          induction n with
          | zero => intro k r2 σ2 k0 hms; exact absurd hms (Nat.not_lt_zero _)
          | succ n ih =>
            intro k r2 σ2 k0 hms j1 j0 j2 j3 j4 j5 j6 H locs hM hS ls hl
            have ih14 := ih
            clear ih
            have hk7 := i4.1.1
            refine lv_iload hx hb dX7_passes_14 (lv_at hl 0 rfl) ?_
            refine lv_aload_n hx hb dX7_passes_16 rfl (lv_at hl 3 rfl) ?_
            refine x_bipush hx hb dX7_passes_17 (by decide +kernel) ?_
            refine x_callVR (As := [.int (zI 7)]) (rest := [.int (zI k)]) S hK (c_X7_num l D cs a σ2 pa sl sv pd kn ln 7 (by omega)) (cwV 1 hts gX7_passes_X7_num rfl rfl rfl (by decide +kernel) ⟨(Nat.le_of_ble_eq_true rfl), (Nat.le_of_ble_eq_true rfl)⟩) (x_rc hK (mAt_0 hM) rfl) hM rfl hl.1 (Nat.le_of_ble_eq_true rfl) dX7_passes_19 ⟨Nat.zero_le _, Nat.zero_le _⟩ ?_
            refine x_icmp_ge (tgt := 41) hx hb dX7_passes_22 (by decide) (by omega) (by omega) (fun c_22 => ?_) (fun c_22 => ?_)
            · have hs6 := i4.2.1.2.2.2.2
              refine lv_aload_n hx hb dX7_passes_41 rfl (lv_at hl 3 rfl) ?_
              refine m_g_s S hin7 hK hM (hts (.fieldLink RX7 7 "EnergyDiscsModel" "s" "[J") (by decide +kernel)) dX7_passes_42 ?_
              refine lv_iload_n hx hb dX7_passes_45 rfl (lv_at hl 4 rfl) ?_
              refine x_bipush hx hb dX7_passes_46 (by decide +kernel) ?_
              refine x_iadd hx hb dX7_passes_48 ?_
              refine lv_dup2_11 hx hb dX7_passes_49 rfl rfl ?_
              refine m_l_s S hK hM (by omega) dX7_passes_50 ?_
              refine x_lconst (v := 1) hx hb dX7_passes_51 rfl ?_
              refine x_ladd hx hb dX7_passes_52 ?_
              refine m_s_s S hK hM hI hS (by omega) dX7_passes_53 (fun H locs hM hS => ?_)
              refine x_iinc (x := t) (lv' := [(4, .int (zI (t + 1))), (5, .int (zI k)), (3, .int (zI r2)), (0, .ref (a 0)), (1, .int (zI q)), (2, .int (zI w))]) hx hb dX7_passes_54 hl (k := 1) rfl (by decide) rfl (fun ls hl => ?_)
              refine lv_goto (tgt := 5) hx hb dX7_passes_57 (by decide) ?_
              exact ih5 (t + 1) r2 (up σ2 (q + 6) ((σ2 (q + 6)) + 1)) (t0 + 1) (by omega) (by omega) (by omega) (by rw [j2, i2]; show _ = tMins σ q t0 + tRow (pMins σ q t0) q (pMins σ q t0 7).toNat; rw [← i3, show (σ1 7).toNat = k0 by omega]) (by rw [j3]; show _ = pMin (pMins σ q t0) q; rw [← i3]; unfold pMin; rw [show (σ1 7).toNat = k0 by omega]) (by refine gOK_time j4 hq ?_; rw [j6]; omega) (by rw [up_s, j6, i6]; omega) H locs hM hS ls (lv_sub hl [0, 2, 3, 4, 5] rfl)
            · have hd2 := j4.2.2 k (by omega) (by omega)
              refine lv_iload_n hx hb dX7_passes_25 rfl (lv_at hl 2 rfl) ?_
              refine lv_aload_n hx hb dX7_passes_26 rfl (lv_at hl 3 rfl) ?_
              refine lv_iload_n hx hb dX7_passes_27 rfl (lv_at hl 4 rfl) ?_
              refine lv_iload hx hb dX7_passes_28 (lv_at hl 0 rfl) ?_
              refine x_callVM (As := [.int (zI q), .int (zI k)]) (rest := [.int (zI r2)]) S hK (c_X7_passesOne l D cs a σ2 pa sl sv pd kn ln q k (by omega) (by omega) (by exact j4.1) (by exact j4.2.1) (by exact hd2) (by omega)) (cwV 2 hts gX7_passes_X7_passesOne rfl rfl rfl (by decide +kernel) ⟨(Nat.le_of_ble_eq_true rfl), (Nat.le_of_ble_eq_true rfl)⟩) (x_rc hK (mAt_0 hM) rfl) hM rfl hl.1 (Nat.le_of_ble_eq_true rfl) dX7_passes_30 ⟨Nat.zero_le _, Nat.zero_le _⟩ hS (fun q hq => hq) (fun H locs hB hF hS => ?_)
              have hM : mAt D cs a (pOne σ2 q k) pa sl sv pd kn ln H := hB
              refine x_iadd hx hb dX7_passes_33 ?_
              refine lv_istore_n (lv' := [(3, .int (zI (r2 + (pOneP σ2 q k / 6000)))), (5, .int (zI k)), (4, .int (zI t)), (0, .ref (a 0)), (1, .int (zI q)), (2, .int (zI w))]) hx hb dX7_passes_34 rfl hl (by decide) rfl (fun ls hl => ?_)
              refine x_iinc (x := k) (lv' := [(5, .int (zI (k + 1))), (3, .int (zI (r2 + (pOneP σ2 q k / 6000)))), (4, .int (zI t)), (0, .ref (a 0)), (1, .int (zI q)), (2, .int (zI w))]) hx hb dX7_passes_35 hl (k := 1) rfl (by decide) rfl (fun ls hl => ?_)
              refine lv_goto (tgt := 14) hx hb dX7_passes_38 (by decide) ?_
              exact ih14 (k + 1) (r2 + (pOneP σ2 q k / 6000)) (pOne σ2 q k) (k0 + 1) (by omega) (by omega) (by omega) (by rw [j2, j3, j1]; exact Int.add_assoc _ _ _) (by rw [j3, j1]; rfl) (by exact gOK_pOne j4 hq (by omega)) (by rw [pOne_n (by omega)]; exact j5) (by rw [pOne_n (by omega)]; exact j6) H locs hM hS ls (lv_sub hl [0, 2, 1, 3, 4, 5] rfl)
        exact lp14 ((σ1 7 - (0 : Int)).toNat + 1) 0 r σ1 0 (Nat.lt_succ_self _) (by omega) (by have := i4.1.1; omega) (by exact (Int.add_zero _).symm) (by rfl) (by exact i4) (by rfl) (by rfl) H locs hM hS ls (lv_sub hl [0, 1, 2, 3, 4, 5] rfl)
  exact lp5 ((w - (0 : Int)).toNat + 1) 0 0 σ 0 (Nat.lt_succ_self _) (by omega) (by omega) (by rfl) (by rfl) (by exact hG) (by omega) s.heap [] hM hS ls (lv_sub hl [0, 1, 2, 3, 4] rfl)
set_option maxHeartbeats 4000000 in
set_option maxRecDepth 100000 in
theorem c_X7_lowOf (l : Launch) (D : va_G) (cs : Nat → ClassId) (k : Int) (hk : -2147483648 ≤ k ∧ k < 2147483648) : kR D cs l yX7_lowOf wsX7_lowOf ({ frames := 0, cells := 0, slots := 0, locals := 0 } : Room) [.int (zI k)] (fun _ => True) (some (.int (zI (loS k)))) := by
  refine Met.ofW (cc := cX7_lowOf) (maxL := 1) (ret := (some .int)) (by decide) rfl ?_
  intro p e s m args below meth c s₁ B hml hv
  obtain ⟨rfl, hK, -⟩ := hv
  have hx := B.exec
  have hb := B.bytes
  have hr := B.returns
  have hts := atoms_spec (ws := wsX7_lowOf) B.pre
  have hown : s.vm.findClass RX7 = some m.cls := findClass_of_methodNamed B.named
  have hlocks := B.notSynchronized
  have S : CallFix p m c cX7_lowOf 1 s (([.int (zI k)] : List Value)).toArray wsX7_lowOf RX7 := ⟨hx, hb, hml, hown, hts⟩
  have hl := lv_entry ([.int (zI k)]) (n := 1) (Nat.le_of_ble_eq_true rfl)
  rw [lg_entry_eq]
  generalize (lg_sl ([.int (zI k)]) ++ List.replicate (1 - (lg_sl ([.int (zI k)])).length) Slot.unset).toArray = ls at hl ⊢
  have hl : lv_has ls 1 [(0, .int (zI k))] := hl
  refine lv_iload_n hx hb dX7_lowOf_0 rfl (lv_at hl 0 rfl) ?_
  refine x_iconst hx hb dX7_lowOf_1 ?_
  refine x_icmp_ne (tgt := 10) hx hb dX7_lowOf_2 (by decide) (by omega) (by omega) (fun c_2 => ?_) (fun c_2 => ?_)
  · refine x_iconst hx hb dX7_lowOf_10 ?_
    exact x_iretR hx hb hr hlocks (by unfold loS; first | (rw [if_pos (by omega)]) | (rw [if_neg (by omega)])) rfl dX7_lowOf_11
  · refine x_bipush hx hb dX7_lowOf_5 (by decide +kernel) ?_
    refine lv_goto (tgt := 11) hx hb dX7_lowOf_7 (by decide) ?_
    exact x_iretR hx hb hr hlocks (by unfold loS; first | (rw [if_pos (by omega)]) | (rw [if_neg (by omega)])) rfl dX7_lowOf_11
set_option maxHeartbeats 4000000 in
set_option maxRecDepth 100000 in
theorem c_X7_highOf (l : Launch) (D : va_G) (cs : Nat → ClassId) (k : Int) (hk : -2147483648 ≤ k ∧ k < 2147483648) : kR D cs l yX7_highOf wsX7_highOf ({ frames := 0, cells := 0, slots := 0, locals := 0 } : Room) [.int (zI k)] (fun _ => True) (some (.int (zI (hiS k)))) := by
  refine Met.ofW (cc := cX7_highOf) (maxL := 1) (ret := (some .int)) (by decide) rfl ?_
  intro p e s m args below meth c s₁ B hml hv
  obtain ⟨rfl, hK, -⟩ := hv
  have hx := B.exec
  have hb := B.bytes
  have hr := B.returns
  have hts := atoms_spec (ws := wsX7_highOf) B.pre
  have hown : s.vm.findClass RX7 = some m.cls := findClass_of_methodNamed B.named
  have hlocks := B.notSynchronized
  have S : CallFix p m c cX7_highOf 1 s (([.int (zI k)] : List Value)).toArray wsX7_highOf RX7 := ⟨hx, hb, hml, hown, hts⟩
  have hl := lv_entry ([.int (zI k)]) (n := 1) (Nat.le_of_ble_eq_true rfl)
  rw [lg_entry_eq]
  generalize (lg_sl ([.int (zI k)]) ++ List.replicate (1 - (lg_sl ([.int (zI k)])).length) Slot.unset).toArray = ls at hl ⊢
  have hl : lv_has ls 1 [(0, .int (zI k))] := hl
  refine lv_iload_n hx hb dX7_highOf_0 rfl (lv_at hl 0 rfl) ?_
  by_cases k_1_1 : k = 1
  · refine x_tabIn (k := 1) (off := 27) (tgt := 28) hx hb dX7_highOf_1 k_1_1 (by decide) (by decide) (by decide) rfl (by decide) ?_
    refine x_bipush hx hb dX7_highOf_28 (by decide +kernel) ?_
    exact x_iretR hx hb hr hlocks (by unfold hiS; repeat (first | rw [if_pos (by omega)] | rw [if_neg (by omega)])) rfl dX7_highOf_30
  by_cases k_1_2 : k = 2
  · refine x_tabIn (k := 2) (off := 30) (tgt := 31) hx hb dX7_highOf_1 k_1_2 (by decide) (by decide) (by decide) rfl (by decide) ?_
    refine x_iconst hx hb dX7_highOf_31 ?_
    exact x_iretR hx hb hr hlocks (by unfold hiS; repeat (first | rw [if_pos (by omega)] | rw [if_neg (by omega)])) rfl dX7_highOf_32
  by_cases k_1_3 : k = 3
  · refine x_tabIn (k := 3) (off := 32) (tgt := 33) hx hb dX7_highOf_1 k_1_3 (by decide) (by decide) (by decide) rfl (by decide) ?_
    refine x_sipush hx hb dX7_highOf_33 (by decide +kernel) ?_
    exact x_iretR hx hb hr hlocks (by unfold hiS; repeat (first | rw [if_pos (by omega)] | rw [if_neg (by omega)])) rfl dX7_highOf_36
  refine x_tabOut (tgt := 37) hx hb dX7_highOf_1 (by omega) (by omega) (by decide) ?_
  refine x_bipush hx hb dX7_highOf_37 (by decide +kernel) ?_
  exact x_iretR hx hb hr hlocks (by unfold hiS; repeat (first | rw [if_pos (by omega)] | rw [if_neg (by omega)])) rfl dX7_highOf_39
set_option maxHeartbeats 4000000 in
set_option maxRecDepth 100000 in
theorem c_X7_set_bad (l : Launch) (D : va_G) (cs : Nat → ClassId) (a : Int → Nat) (σ : Int → Int) (pa : Int → Int) (sl : Int → Int) (sv : Int → Int) (pd : Int → Int) (kn : Int) (ln : Int) (k : Int) (v : Int) (hk : -2147483648 ≤ k ∧ k < 2147483648) (hv : -2147483648 ≤ v ∧ v < 2147483648) (hn : ¬ setOK k v) : kR D cs l yX7_set wsX7_set ({ frames := 1, cells := 0, slots := 0, locals := 22 } : Room) [.ref (a 0), .int (zI k), .int (zI v)] (fun H => mAt D cs a σ pa sl sv pd kn ln H) (some (.int (zI (-2)))) := by
  refine Met.ofW (cc := cX7_set) (maxL := 4) (ret := (some .int)) (by decide) rfl ?_
  intro p e s m args below meth c s₁ B hml hv
  obtain ⟨rfl, hK, hM⟩ := hv
  have hx := B.exec
  have hb := B.bytes
  have hr := B.returns
  have hts := atoms_spec (ws := wsX7_set) B.pre
  have hown : s.vm.findClass RX7 = some m.cls := findClass_of_methodNamed B.named
  have hlocks := B.notSynchronized
  have S : CallFix p m c cX7_set 4 s (([.ref (a 0), .int (zI k), .int (zI v)] : List Value)).toArray wsX7_set RX7 := ⟨hx, hb, hml, hown, hts⟩
  have hin7 : ∀ w ∈ wsX70, w ∈ wsX7_set := by decide +kernel
  have hl := lv_entry ([.ref (a 0), .int (zI k), .int (zI v)]) (n := 4) (Nat.le_of_ble_eq_true rfl)
  rw [lg_entry_eq]
  generalize (lg_sl ([.ref (a 0), .int (zI k), .int (zI v)]) ++ List.replicate (4 - (lg_sl ([.ref (a 0), .int (zI k), .int (zI v)])).length) Slot.unset).toArray = ls at hl ⊢
  have hl : lv_has ls 4 [(0, .ref (a 0)), (1, .int (zI k)), (2, .int (zI v))] := hl
  have hlo := loS_rng k
  have hhi := hiS_rng k
  refine lv_iload_n hx hb dX7_set_0 rfl (lv_at hl 1 rfl) ?_
  refine x_iconst hx hb dX7_set_1 ?_
  refine x_iconst hx hb dX7_set_2 ?_
  refine x_callSR (As := [.int (zI k), .int (zI 0), .int (zI 5)]) (rest := []) S hK (c_X7_in l D cs k 0 5 (by omega) (by omega) (by omega)) (va_cwS 3 hts gX7_set_X7_in rfl rfl rfl (by decide +kernel) ⟨(Nat.le_of_ble_eq_true rfl), (Nat.le_of_ble_eq_true rfl)⟩) trivial rfl hl.1 (Nat.le_of_ble_eq_true rfl) dX7_set_3 ⟨Nat.zero_le _, Nat.zero_le _⟩ ?_
  refine x_ifb_eq (tgt := 24) hx hb dX7_set_6 (by decide)  (fun c_6 => ?_) (fun c_6 => ?_)
  · refine x_bipush hx hb dX7_set_24 (by decide +kernel) ?_
    exact x_iretR hx hb hr hlocks (by first | rfl | omega) rfl dX7_set_26
  · refine lv_iload_n hx hb dX7_set_9 rfl (lv_at hl 2 rfl) ?_
    refine lv_iload_n hx hb dX7_set_10 rfl (lv_at hl 1 rfl) ?_
    refine x_callSR (As := [.int (zI k)]) (rest := [.int (zI v)]) S hK (c_X7_lowOf l D cs k (by omega)) (va_cwS 1 hts gX7_set_X7_lowOf rfl rfl rfl (by decide +kernel) ⟨(Nat.le_of_ble_eq_true rfl), (Nat.le_of_ble_eq_true rfl)⟩) trivial rfl hl.1 (Nat.le_of_ble_eq_true rfl) dX7_set_11 ⟨Nat.zero_le _, Nat.zero_le _⟩ ?_
    refine lv_iload_n hx hb dX7_set_14 rfl (lv_at hl 1 rfl) ?_
    refine x_callSR (As := [.int (zI k)]) (rest := [.int (zI (loS k)), .int (zI v)]) S hK (c_X7_highOf l D cs k (by omega)) (va_cwS 1 hts gX7_set_X7_highOf rfl rfl rfl (by decide +kernel) ⟨(Nat.le_of_ble_eq_true rfl), (Nat.le_of_ble_eq_true rfl)⟩) trivial rfl hl.1 (Nat.le_of_ble_eq_true rfl) dX7_set_15 ⟨Nat.zero_le _, Nat.zero_le _⟩ ?_
    refine x_callSR (As := [.int (zI v), .int (zI (loS k)), .int (zI (hiS k))]) (rest := []) S hK (c_X7_in l D cs v (loS k) (hiS k) (by omega) (by omega) (by omega)) (va_cwS 3 hts gX7_set_X7_in rfl rfl rfl (by decide +kernel) ⟨(Nat.le_of_ble_eq_true rfl), (Nat.le_of_ble_eq_true rfl)⟩) trivial rfl hl.1 (Nat.le_of_ble_eq_true rfl) dX7_set_18 ⟨Nat.zero_le _, Nat.zero_le _⟩ ?_
    refine x_ifb_ne (tgt := 27) hx hb dX7_set_21 (by decide)  (fun c_21 => ?_) (fun c_21 => ?_)
    · exact absurd ⟨c_6, c_21⟩ hn
    · refine x_bipush hx hb dX7_set_24 (by decide +kernel) ?_
      exact x_iretR hx hb hr hlocks (by first | rfl | omega) rfl dX7_set_26
set_option maxHeartbeats 4000000 in
set_option maxRecDepth 100000 in
theorem c_X7_set_ok (l : Launch) (D : va_G) (cs : Nat → ClassId) (a : Int → Nat) (σ : Int → Int) (pa : Int → Int) (sl : Int → Int) (sv : Int → Int) (pd : Int → Int) (kn : Int) (ln : Int) (k : Int) (v : Int) (hk : -2147483648 ≤ k ∧ k < 2147483648) (hv : -2147483648 ≤ v ∧ v < 2147483648) (hn : setOK k v) (hkn : 0 ≤ kn ∧ kn ≤ 6) (hI : mI a) : kM D cs l yX7_set wsX7_set ({ frames := 1, cells := 0, slots := 0, locals := 22 } : Room) [.ref (a 0), .int (zI k), .int (zI v)] (fun H => mAt D cs a σ pa sl sv pd kn ln H) (some (.int (zI (σ k)))) (fun H => mAt D cs a (up σ k v) (remP σ pa kn) sl sv pd (remK kn) ln H) (mC a) := by
  refine Met.ofW (cc := cX7_set) (maxL := 4) (ret := (some .int)) (by decide) rfl ?_
  intro p e s m args below meth c s₁ B hml hv
  obtain ⟨rfl, hK, hM⟩ := hv
  have hx := B.exec
  have hb := B.bytes
  have hr := B.returns
  have hts := atoms_spec (ws := wsX7_set) B.pre
  have hown : s.vm.findClass RX7 = some m.cls := findClass_of_methodNamed B.named
  have hlocks := B.notSynchronized
  have S : CallFix p m c cX7_set 4 s (([.ref (a 0), .int (zI k), .int (zI v)] : List Value)).toArray wsX7_set RX7 := ⟨hx, hb, hml, hown, hts⟩
  have hin7 : ∀ w ∈ wsX70, w ∈ wsX7_set := by decide +kernel
  have hS : va_S (mC a) s.heap s.heap [] := va_S.rf
  have hl := lv_entry ([.ref (a 0), .int (zI k), .int (zI v)]) (n := 4) (Nat.le_of_ble_eq_true rfl)
  rw [lg_entry_eq]
  generalize (lg_sl ([.ref (a 0), .int (zI k), .int (zI v)]) ++ List.replicate (4 - (lg_sl ([.ref (a 0), .int (zI k), .int (zI v)])).length) Slot.unset).toArray = ls at hl ⊢
  have hl : lv_has ls 4 [(0, .ref (a 0)), (1, .int (zI k)), (2, .int (zI v))] := hl
  have hlo := loS_rng k
  have hhi := hiS_rng k
  have hk5 := hn.1
  refine lv_iload_n hx hb dX7_set_0 rfl (lv_at hl 1 rfl) ?_
  refine x_iconst hx hb dX7_set_1 ?_
  refine x_iconst hx hb dX7_set_2 ?_
  refine x_callSR (As := [.int (zI k), .int (zI 0), .int (zI 5)]) (rest := []) S hK (c_X7_in l D cs k 0 5 (by omega) (by omega) (by omega)) (va_cwS 3 hts gX7_set_X7_in rfl rfl rfl (by decide +kernel) ⟨(Nat.le_of_ble_eq_true rfl), (Nat.le_of_ble_eq_true rfl)⟩) trivial rfl hl.1 (Nat.le_of_ble_eq_true rfl) dX7_set_3 ⟨Nat.zero_le _, Nat.zero_le _⟩ ?_
  refine x_ifb_eq (tgt := 24) hx hb dX7_set_6 (by decide)  (fun c_6 => ?_) (fun c_6 => ?_)
  · exact absurd hn.1 c_6
  · refine lv_iload_n hx hb dX7_set_9 rfl (lv_at hl 2 rfl) ?_
    refine lv_iload_n hx hb dX7_set_10 rfl (lv_at hl 1 rfl) ?_
    refine x_callSR (As := [.int (zI k)]) (rest := [.int (zI v)]) S hK (c_X7_lowOf l D cs k (by omega)) (va_cwS 1 hts gX7_set_X7_lowOf rfl rfl rfl (by decide +kernel) ⟨(Nat.le_of_ble_eq_true rfl), (Nat.le_of_ble_eq_true rfl)⟩) trivial rfl hl.1 (Nat.le_of_ble_eq_true rfl) dX7_set_11 ⟨Nat.zero_le _, Nat.zero_le _⟩ ?_
    refine lv_iload_n hx hb dX7_set_14 rfl (lv_at hl 1 rfl) ?_
    refine x_callSR (As := [.int (zI k)]) (rest := [.int (zI (loS k)), .int (zI v)]) S hK (c_X7_highOf l D cs k (by omega)) (va_cwS 1 hts gX7_set_X7_highOf rfl rfl rfl (by decide +kernel) ⟨(Nat.le_of_ble_eq_true rfl), (Nat.le_of_ble_eq_true rfl)⟩) trivial rfl hl.1 (Nat.le_of_ble_eq_true rfl) dX7_set_15 ⟨Nat.zero_le _, Nat.zero_le _⟩ ?_
    refine x_callSR (As := [.int (zI v), .int (zI (loS k)), .int (zI (hiS k))]) (rest := []) S hK (c_X7_in l D cs v (loS k) (hiS k) (by omega) (by omega) (by omega)) (va_cwS 3 hts gX7_set_X7_in rfl rfl rfl (by decide +kernel) ⟨(Nat.le_of_ble_eq_true rfl), (Nat.le_of_ble_eq_true rfl)⟩) trivial rfl hl.1 (Nat.le_of_ble_eq_true rfl) dX7_set_18 ⟨Nat.zero_le _, Nat.zero_le _⟩ ?_
    refine x_ifb_ne (tgt := 27) hx hb dX7_set_21 (by decide)  (fun c_21 => ?_) (fun c_21 => ?_)
    · refine lv_aload_n hx hb dX7_set_27 rfl (lv_at hl 0 rfl) ?_
      refine x_callVMn (As := []) (rest := []) S hK (c_X7_remembers l D cs a σ pa sl sv pd kn ln (by omega) (by omega)) (cwV 0 hts gX7_set_X7_remembers rfl rfl rfl (by decide +kernel) ⟨(Nat.le_of_ble_eq_true rfl), (Nat.le_of_ble_eq_true rfl)⟩) (x_rc hK (mAt_0 hM) rfl) hM rfl hl.1 (Nat.le_of_ble_eq_true rfl) dX7_set_28 ⟨Nat.zero_le _, Nat.zero_le _⟩ hS (fun q hq => hq) (fun H locs hB hF hS => ?_)
      have hM : mAt D cs a σ (remP σ pa kn) sl sv pd (remK kn) ln H := hB
      refine lv_aload_n hx hb dX7_set_31 rfl (lv_at hl 0 rfl) ?_
      refine lv_iload_n hx hb dX7_set_32 rfl (lv_at hl 1 rfl) ?_
      refine x_callVR (As := [.int (zI k)]) (rest := []) S hK (c_X7_num l D cs a σ (remP σ pa kn) sl sv pd (remK kn) ln k (by omega)) (cwV 1 hts gX7_set_X7_num rfl rfl rfl (by decide +kernel) ⟨(Nat.le_of_ble_eq_true rfl), (Nat.le_of_ble_eq_true rfl)⟩) (x_rc hK (mAt_0 hM) rfl) hM rfl hl.1 (Nat.le_of_ble_eq_true rfl) dX7_set_33 ⟨Nat.zero_le _, Nat.zero_le _⟩ ?_
      refine lv_istore_n (lv' := [(3, .int (zI (σ k))), (0, .ref (a 0)), (1, .int (zI k)), (2, .int (zI v))]) hx hb dX7_set_36 rfl hl (by decide) rfl (fun ls hl => ?_)
      refine lv_aload_n hx hb dX7_set_37 rfl (lv_at hl 1 rfl) ?_
      refine m_g_s S hin7 hK hM (hts (.fieldLink RX7 7 "EnergyDiscsModel" "s" "[J") (by decide +kernel)) dX7_set_38 ?_
      refine lv_iload_n hx hb dX7_set_41 rfl (lv_at hl 2 rfl) ?_
      refine lv_iload_n hx hb dX7_set_42 rfl (lv_at hl 3 rfl) ?_
      refine x_i2l hx hb (by omega) dX7_set_43 ?_
      refine m_s_s S hK hM hI hS (by omega) dX7_set_44 (fun H locs hM hS => ?_)
      refine lv_iload_n hx hb dX7_set_45 rfl (lv_at hl 0 rfl) ?_
      exact x_iretM hx hb hr hlocks (by first | rfl | omega) hM hS dX7_set_46
    · exact absurd hn.2 c_21
set_option maxHeartbeats 4000000 in
set_option maxRecDepth 100000 in
theorem c_X7_whyNotMeter (l : Launch) (D : va_G) (cs : Nat → ClassId) (a : Int → Nat) (σ : Int → Int) (pa : Int → Int) (sl : Int → Int) (sv : Int → Int) (pd : Int → Int) (kn : Int) (ln : Int) (k : Int) (h7 : 0 ≤ σ 7 ∧ σ 7 ≤ 7) (hk : -2147483648 ≤ k ∧ k < 2147483648) : kR D cs l yX7_whyNotMeter wsX7_whyNotMeter ({ frames := 2, cells := 0, slots := 0, locals := 43 } : Room) [.ref (a 0), .int (zI k)] (fun H => mAt D cs a σ pa sl sv pd kn ln H) (some (.int (zI (wnM σ k)))) := by
  refine Met.ofW (cc := cX7_whyNotMeter) (maxL := 2) (ret := (some .int)) (by decide) rfl ?_
  intro p e s m args below meth c s₁ B hml hv
  obtain ⟨rfl, hK, hM⟩ := hv
  have hx := B.exec
  have hb := B.bytes
  have hr := B.returns
  have hts := atoms_spec (ws := wsX7_whyNotMeter) B.pre
  have hown : s.vm.findClass RX7 = some m.cls := findClass_of_methodNamed B.named
  have hlocks := B.notSynchronized
  have S : CallFix p m c cX7_whyNotMeter 2 s (([.ref (a 0), .int (zI k)] : List Value)).toArray wsX7_whyNotMeter RX7 := ⟨hx, hb, hml, hown, hts⟩
  have hl := lv_entry ([.ref (a 0), .int (zI k)]) (n := 2) (Nat.le_of_ble_eq_true rfl)
  rw [lg_entry_eq]
  generalize (lg_sl ([.ref (a 0), .int (zI k)]) ++ List.replicate (2 - (lg_sl ([.ref (a 0), .int (zI k)])).length) Slot.unset).toArray = ls at hl ⊢
  have hl : lv_has ls 2 [(0, .ref (a 0)), (1, .int (zI k))] := hl
  refine lv_aload_n hx hb dX7_whyNotMeter_0 rfl (lv_at hl 0 rfl) ?_
  refine x_bipush hx hb dX7_whyNotMeter_1 (by decide +kernel) ?_
  refine x_callVR (As := [.int (zI 7)]) (rest := []) S hK (c_X7_num l D cs a σ pa sl sv pd kn ln 7 (by omega)) (cwV 1 hts gX7_whyNotMeter_X7_num rfl rfl rfl (by decide +kernel) ⟨(Nat.le_of_ble_eq_true rfl), (Nat.le_of_ble_eq_true rfl)⟩) (x_rc hK (mAt_0 hM) rfl) hM rfl hl.1 (Nat.le_of_ble_eq_true rfl) dX7_whyNotMeter_3 ⟨Nat.zero_le _, Nat.zero_le _⟩ ?_
  refine x_if_le (tgt := 21) hx hb dX7_whyNotMeter_6 (by decide) (by omega) (fun c_6 => ?_) (fun c_6 => ?_)
  · refine lv_aload_n hx hb dX7_whyNotMeter_21 rfl (lv_at hl 0 rfl) ?_
    refine x_bipush hx hb dX7_whyNotMeter_22 (by decide +kernel) ?_
    refine x_callVR (As := [.int (zI 7)]) (rest := []) S hK (c_X7_num l D cs a σ pa sl sv pd kn ln 7 (by omega)) (cwV 1 hts gX7_whyNotMeter_X7_num rfl rfl rfl (by decide +kernel) ⟨(Nat.le_of_ble_eq_true rfl), (Nat.le_of_ble_eq_true rfl)⟩) (x_rc hK (mAt_0 hM) rfl) hM rfl hl.1 (Nat.le_of_ble_eq_true rfl) dX7_whyNotMeter_24 ⟨Nat.zero_le _, Nat.zero_le _⟩ ?_
    refine x_bipush hx hb dX7_whyNotMeter_27 (by decide +kernel) ?_
    refine x_icmp_ne (tgt := 37) hx hb dX7_whyNotMeter_29 (by decide) (by omega) (by omega) (fun c_29 => ?_) (fun c_29 => ?_)
    · refine x_iconst hx hb dX7_whyNotMeter_37 ?_
      exact x_iretR hx hb hr hlocks (by first | (exfalso; omega) | skip; unfold wnM; repeat (first | rw [if_pos (by omega)] | rw [if_neg (by omega)])) rfl dX7_whyNotMeter_38
    · refine x_bipush hx hb dX7_whyNotMeter_32 (by decide +kernel) ?_
      refine lv_goto (tgt := 38) hx hb dX7_whyNotMeter_34 (by decide) ?_
      exact x_iretR hx hb hr hlocks (by first | (exfalso; omega) | skip; unfold wnM; repeat (first | rw [if_pos (by omega)] | rw [if_neg (by omega)])) rfl dX7_whyNotMeter_38
  · refine lv_aload_n hx hb dX7_whyNotMeter_9 rfl (lv_at hl 0 rfl) ?_
    refine lv_iload_n hx hb dX7_whyNotMeter_10 rfl (lv_at hl 1 rfl) ?_
    refine x_callVR (As := [.int (zI k)]) (rest := []) S hK (c_X7_isMeter l D cs a σ pa sl sv pd kn ln k (by omega) (by omega)) (cwV 1 hts gX7_whyNotMeter_X7_isMeter rfl rfl rfl (by decide +kernel) ⟨(Nat.le_of_ble_eq_true rfl), (Nat.le_of_ble_eq_true rfl)⟩) (x_rc hK (mAt_0 hM) rfl) hM rfl hl.1 (Nat.le_of_ble_eq_true rfl) dX7_whyNotMeter_11 ⟨Nat.zero_le _, Nat.zero_le _⟩ ?_
    refine x_ifb_ne (tgt := 21) hx hb dX7_whyNotMeter_14 (by decide)  (fun c_14 => ?_) (fun c_14 => ?_)
    · refine lv_aload_n hx hb dX7_whyNotMeter_21 rfl (lv_at hl 0 rfl) ?_
      refine x_bipush hx hb dX7_whyNotMeter_22 (by decide +kernel) ?_
      refine x_callVR (As := [.int (zI 7)]) (rest := []) S hK (c_X7_num l D cs a σ pa sl sv pd kn ln 7 (by omega)) (cwV 1 hts gX7_whyNotMeter_X7_num rfl rfl rfl (by decide +kernel) ⟨(Nat.le_of_ble_eq_true rfl), (Nat.le_of_ble_eq_true rfl)⟩) (x_rc hK (mAt_0 hM) rfl) hM rfl hl.1 (Nat.le_of_ble_eq_true rfl) dX7_whyNotMeter_24 ⟨Nat.zero_le _, Nat.zero_le _⟩ ?_
      refine x_bipush hx hb dX7_whyNotMeter_27 (by decide +kernel) ?_
      refine x_icmp_ne (tgt := 37) hx hb dX7_whyNotMeter_29 (by decide) (by omega) (by omega) (fun c_29 => ?_) (fun c_29 => ?_)
      · refine x_iconst hx hb dX7_whyNotMeter_37 ?_
        exact x_iretR hx hb hr hlocks (by first | (exfalso; omega) | skip; unfold wnM; repeat (first | rw [if_pos (by omega)] | rw [if_neg (by omega)])) rfl dX7_whyNotMeter_38
      · refine x_bipush hx hb dX7_whyNotMeter_32 (by decide +kernel) ?_
        refine lv_goto (tgt := 38) hx hb dX7_whyNotMeter_34 (by decide) ?_
        exact x_iretR hx hb hr hlocks (by first | (exfalso; omega) | skip; unfold wnM; repeat (first | rw [if_pos (by omega)] | rw [if_neg (by omega)])) rfl dX7_whyNotMeter_38
    · refine x_iconst hx hb dX7_whyNotMeter_17 ?_
      refine lv_goto (tgt := 38) hx hb dX7_whyNotMeter_18 (by decide) ?_
      exact x_iretR hx hb hr hlocks (by first | (exfalso; omega) | skip; unfold wnM; repeat (first | rw [if_pos (by omega)] | rw [if_neg (by omega)])) rfl dX7_whyNotMeter_38
set_option maxHeartbeats 4000000 in
set_option maxRecDepth 100000 in
theorem c_X7_comes (l : Launch) (D : va_G) (cs : Nat → ClassId) (a : Int → Nat) (σ : Int → Int) (pa : Int → Int) (sl : Int → Int) (sv : Int → Int) (pd : Int → Int) (kn : Int) (ln : Int) (k : Int) (h7 : 0 ≤ σ 7 ∧ σ 7 < 7) (hk : -2147483648 ≤ k ∧ k < 2147483648) (hI : mI a) : kM D cs l yX7_comes wsX7_comes ({ frames := 1, cells := 0, slots := 0, locals := 21 } : Room) [.ref (a 0), .int (zI k)] (fun H => mAt D cs a σ pa sl sv pd kn ln H) (some (.int (zI (σ 7)))) (fun H => mAt D cs a (comF σ k) pa sl sv pd kn ln H) (mC a) := by
  refine Met.ofW (cc := cX7_comes) (maxL := 4) (ret := (some .int)) (by decide) rfl ?_
  intro p e s m args below meth c s₁ B hml hv
  obtain ⟨rfl, hK, hM⟩ := hv
  have hx := B.exec
  have hb := B.bytes
  have hr := B.returns
  have hts := atoms_spec (ws := wsX7_comes) B.pre
  have hown : s.vm.findClass RX7 = some m.cls := findClass_of_methodNamed B.named
  have hlocks := B.notSynchronized
  have S : CallFix p m c cX7_comes 4 s (([.ref (a 0), .int (zI k)] : List Value)).toArray wsX7_comes RX7 := ⟨hx, hb, hml, hown, hts⟩
  have hin7 : ∀ w ∈ wsX70, w ∈ wsX7_comes := by decide +kernel
  have hS : va_S (mC a) s.heap s.heap [] := va_S.rf
  have hl := lv_entry ([.ref (a 0), .int (zI k)]) (n := 4) (Nat.le_of_ble_eq_true rfl)
  rw [lg_entry_eq]
  generalize (lg_sl ([.ref (a 0), .int (zI k)]) ++ List.replicate (4 - (lg_sl ([.ref (a 0), .int (zI k)])).length) Slot.unset).toArray = ls at hl ⊢
  have hl : lv_has ls 4 [(0, .ref (a 0)), (1, .int (zI k))] := hl
  refine x_iconst hx hb dX7_comes_0 ?_
  refine lv_aload_n hx hb dX7_comes_1 rfl (lv_at hl 0 rfl) ?_
  refine x_bipush hx hb dX7_comes_2 (by decide +kernel) ?_
  refine x_callVR (As := [.int (zI 7)]) (rest := [.int (zI 0)]) S hK (c_X7_num l D cs a σ pa sl sv pd kn ln 7 (by omega)) (cwV 1 hts gX7_comes_X7_num rfl rfl rfl (by decide +kernel) ⟨(Nat.le_of_ble_eq_true rfl), (Nat.le_of_ble_eq_true rfl)⟩) (x_rc hK (mAt_0 hM) rfl) hM rfl hl.1 (Nat.le_of_ble_eq_true rfl) dX7_comes_4 ⟨Nat.zero_le _, Nat.zero_le _⟩ ?_
  refine x_callSR (As := [.int (zI 0), .int (zI (σ 7))]) (rest := []) S hK (c_X7_at l D cs 0 (σ 7) ) (va_cwS 2 hts gX7_comes_X7_at rfl rfl rfl (by decide +kernel) ⟨(Nat.le_of_ble_eq_true rfl), (Nat.le_of_ble_eq_true rfl)⟩) trivial rfl hl.1 (Nat.le_of_ble_eq_true rfl) dX7_comes_7 ⟨Nat.zero_le _, Nat.zero_le _⟩ ?_
  refine lv_istore_n (lv' := [(2, .int (zI (0 + 11 + 13 * (σ 7)))), (0, .ref (a 0)), (1, .int (zI k))]) hx hb dX7_comes_10 rfl hl (by decide) rfl (fun ls hl => ?_)
  refine x_iconst hx hb dX7_comes_11 ?_
  refine lv_istore_n (lv' := [(3, .int (zI 0)), (2, .int (zI (0 + 11 + 13 * (σ 7)))), (0, .ref (a 0)), (1, .int (zI k))]) hx hb dX7_comes_12 rfl hl (by decide) rfl (fun ls hl => ?_)
  have lp13 : ∀ (n : Nat) (j : Int) (P : Int → Int), (13 - j).toNat < n → 0 ≤ j ∧ j ≤ 13 → P = cpN σ (fun _ => 0) (0 + 11 + 13 * σ 7) j → ∀ (H : Heap) (locs : List Loc), mAt D cs a P pa sl sv pd kn ln H → va_S (mC a) s.heap H locs → ∀ (ls : Array Slot), lv_has ls 4 [(3, .int (zI j)), (2, .int (zI (0 + 11 + 13 * (σ 7)))), (0, .ref (a 0)), (1, .int (zI k))] → W p l e (headSpec wsX7_comes ({ frames := 1, cells := 0, slots := 0, locals := 21 } : Room)).room s m ([.ref (a 0), .int (zI k)] : List Value).toArray below meth c H locs 0 0 (MQ below (kQ (some (.int (zI (σ 7)))) (fun H => mAt D cs a (comF σ k) pa sl sv pd kn ln H) (mC a)) ([.ref (a 0), .int (zI k)] : List Value).toArray s 0 0 (mC a)) (F0 m 13 ls []) := by
    intro n
    induction n with
    | zero => intro j P hms; exact absurd hms (Nat.not_lt_zero _)
    | succ n ih =>
      intro j P hms hj hP H locs hM hS ls hl
      have ih13 := ih
      clear ih
      refine lv_iload_n hx hb dX7_comes_13 rfl (lv_at hl 0 rfl) ?_
      refine x_bipush hx hb dX7_comes_14 (by decide +kernel) ?_
      refine x_icmp_ge (tgt := 34) hx hb dX7_comes_16 (by decide) (by omega) (by omega) (fun c_16 => ?_) (fun c_16 => ?_)
      · have hM : mAt D cs a (comZ σ) pa sl sv pd kn ln H := mAt_cong hM (by rw [hP, show j = 13 by omega]; rfl) rfl rfl rfl rfl rfl rfl
        refine lv_aload_n hx hb dX7_comes_34 rfl (lv_at hl 2 rfl) ?_
        refine m_g_s S hin7 hK hM (hts (.fieldLink RX7 7 "EnergyDiscsModel" "s" "[J") (by decide +kernel)) dX7_comes_35 ?_
        refine x_bipush hx hb dX7_comes_38 (by decide +kernel) ?_
        refine lv_dup2_11 hx hb dX7_comes_40 rfl rfl ?_
        refine m_l_s S hK hM (by omega) dX7_comes_41 ?_
        refine x_lconst (v := 1) hx hb dX7_comes_42 rfl ?_
        refine x_ladd hx hb dX7_comes_43 ?_
        refine m_s_s S hK hM hI hS (by omega) dX7_comes_44 (fun H locs hM hS => ?_)
        have hM : mAt D cs a (comA σ) pa sl sv pd kn ln H := hM
        have eA7 := comA_7 h7.1
        refine lv_aload_n hx hb dX7_comes_45 rfl (lv_at hl 2 rfl) ?_
        refine m_g_s S hin7 hK hM (hts (.fieldLink RX7 7 "EnergyDiscsModel" "s" "[J") (by decide +kernel)) dX7_comes_46 ?_
        refine lv_iload_n hx hb dX7_comes_49 rfl (lv_at hl 1 rfl) ?_
        refine x_iconst hx hb dX7_comes_50 ?_
        refine x_iadd hx hb dX7_comes_51 ?_
        refine lv_aload_n hx hb dX7_comes_52 rfl (lv_at hl 2 rfl) ?_
        refine x_bipush hx hb dX7_comes_53 (by decide +kernel) ?_
        refine x_callVR (As := [.int (zI 7)]) (rest := [.int (zI ((0 + 11 + 13 * (σ 7)) + 0)), .ref (a 1)]) S hK (c_X7_num l D cs a (comA σ) pa sl sv pd kn ln 7 (by omega)) (cwV 1 hts gX7_comes_X7_num rfl rfl rfl (by decide +kernel) ⟨(Nat.le_of_ble_eq_true rfl), (Nat.le_of_ble_eq_true rfl)⟩) (x_rc hK (mAt_0 hM) rfl) hM rfl hl.1 (Nat.le_of_ble_eq_true rfl) dX7_comes_55 ⟨Nat.zero_le _, Nat.zero_le _⟩ ?_
        refine x_if_ne (tgt := 67) hx hb dX7_comes_58 (by decide) (by omega) (fun c_58 => ?_) (fun c_58 => ?_)
        · refine lv_iload_n hx hb dX7_comes_67 rfl (lv_at hl 3 rfl) ?_
          refine x_i2l hx hb (by omega) dX7_comes_68 ?_
          refine m_s_s S hK hM hI hS (by omega) dX7_comes_69 (fun H locs hM hS => ?_)
          have hM : mAt D cs a (comB σ k) pa sl sv pd kn ln H := mAt_cong hM (by rw [eA7] at c_58; unfold comB; first | rw [if_pos c_58] | rw [if_neg c_58]) rfl rfl rfl rfl rfl rfl
          refine lv_aload_n hx hb dX7_comes_70 rfl (lv_at hl 2 rfl) ?_
          refine m_g_s S hin7 hK hM (hts (.fieldLink RX7 7 "EnergyDiscsModel" "s" "[J") (by decide +kernel)) dX7_comes_71 ?_
          refine lv_iload_n hx hb dX7_comes_74 rfl (lv_at hl 1 rfl) ?_
          refine x_iconst hx hb dX7_comes_75 ?_
          refine x_iadd hx hb dX7_comes_76 ?_
          refine x_ldc2 (v := 100) hx hb hown (hts (.constantLong RX7 66 (zL 100)) (by decide +kernel)) dX7_comes_77 ?_
          refine m_s_s S hK hM hI hS (by omega) dX7_comes_80 (fun H locs hM hS => ?_)
          have hM : mAt D cs a (comC σ k) pa sl sv pd kn ln H := hM
          refine lv_aload_n hx hb dX7_comes_81 rfl (lv_at hl 2 rfl) ?_
          refine m_g_s S hin7 hK hM (hts (.fieldLink RX7 7 "EnergyDiscsModel" "s" "[J") (by decide +kernel)) dX7_comes_82 ?_
          refine lv_iload_n hx hb dX7_comes_85 rfl (lv_at hl 1 rfl) ?_
          refine x_bipush hx hb dX7_comes_86 (by decide +kernel) ?_
          refine x_iadd hx hb dX7_comes_88 ?_
          refine lv_aload_n hx hb dX7_comes_89 rfl (lv_at hl 2 rfl) ?_
          refine m_g_s S hin7 hK hM (hts (.fieldLink RX7 7 "EnergyDiscsModel" "s" "[J") (by decide +kernel)) dX7_comes_90 ?_
          refine x_bipush hx hb dX7_comes_93 (by decide +kernel) ?_
          refine m_l_s S hK hM (by omega) dX7_comes_95 ?_
          refine m_s_s S hK hM hI hS (by omega) dX7_comes_96 (fun H locs hM hS => ?_)
          have hM : mAt D cs a (comD σ k) pa sl sv pd kn ln H := hM
          have eD7 := comD_7 (k := k) h7.1
          refine lv_aload_n hx hb dX7_comes_97 rfl (lv_at hl 2 rfl) ?_
          refine m_g_s S hin7 hK hM (hts (.fieldLink RX7 7 "EnergyDiscsModel" "s" "[J") (by decide +kernel)) dX7_comes_98 ?_
          refine x_bipush hx hb dX7_comes_101 (by decide +kernel) ?_
          refine lv_dup2_11 hx hb dX7_comes_103 rfl rfl ?_
          refine m_l_s S hK hM (by omega) dX7_comes_104 ?_
          refine x_lconst (v := 1) hx hb dX7_comes_105 rfl ?_
          refine x_ladd hx hb dX7_comes_106 ?_
          refine m_s_s S hK hM hI hS (by omega) dX7_comes_107 (fun H locs hM hS => ?_)
          have hM : mAt D cs a (comF σ k) pa sl sv pd kn ln H := hM
          refine lv_aload_n hx hb dX7_comes_108 rfl (lv_at hl 2 rfl) ?_
          refine x_bipush hx hb dX7_comes_109 (by decide +kernel) ?_
          refine x_callVR (As := [.int (zI 7)]) (rest := []) S hK (c_X7_num l D cs a (comF σ k) pa sl sv pd kn ln 7 (by omega)) (cwV 1 hts gX7_comes_X7_num rfl rfl rfl (by decide +kernel) ⟨(Nat.le_of_ble_eq_true rfl), (Nat.le_of_ble_eq_true rfl)⟩) (x_rc hK (mAt_0 hM) rfl) hM rfl hl.1 (Nat.le_of_ble_eq_true rfl) dX7_comes_111 ⟨Nat.zero_le _, Nat.zero_le _⟩ ?_
          refine x_iconst hx hb dX7_comes_114 ?_
          refine x_isub hx hb dX7_comes_115 ?_
          exact x_iretM hx hb hr hlocks (by show comF σ k 7 - 1 = σ 7; unfold comF; rw [up_s, eD7]; omega) hM hS dX7_comes_116
        · refine x_ldc2 (v := -1) hx hb hown (hts (.constantLong RX7 99 (zL (-1))) (by decide +kernel)) dX7_comes_61 ?_
          refine lv_goto (tgt := 69) hx hb dX7_comes_64 (by decide) ?_
          refine m_s_s S hK hM hI hS (by omega) dX7_comes_69 (fun H locs hM hS => ?_)
          have hM : mAt D cs a (comB σ k) pa sl sv pd kn ln H := mAt_cong hM (by rw [eA7] at c_58; unfold comB; first | rw [if_pos c_58] | rw [if_neg c_58]) rfl rfl rfl rfl rfl rfl
          refine lv_aload_n hx hb dX7_comes_70 rfl (lv_at hl 2 rfl) ?_
          refine m_g_s S hin7 hK hM (hts (.fieldLink RX7 7 "EnergyDiscsModel" "s" "[J") (by decide +kernel)) dX7_comes_71 ?_
          refine lv_iload_n hx hb dX7_comes_74 rfl (lv_at hl 1 rfl) ?_
          refine x_iconst hx hb dX7_comes_75 ?_
          refine x_iadd hx hb dX7_comes_76 ?_
          refine x_ldc2 (v := 100) hx hb hown (hts (.constantLong RX7 66 (zL 100)) (by decide +kernel)) dX7_comes_77 ?_
          refine m_s_s S hK hM hI hS (by omega) dX7_comes_80 (fun H locs hM hS => ?_)
          have hM : mAt D cs a (comC σ k) pa sl sv pd kn ln H := hM
          refine lv_aload_n hx hb dX7_comes_81 rfl (lv_at hl 2 rfl) ?_
          refine m_g_s S hin7 hK hM (hts (.fieldLink RX7 7 "EnergyDiscsModel" "s" "[J") (by decide +kernel)) dX7_comes_82 ?_
          refine lv_iload_n hx hb dX7_comes_85 rfl (lv_at hl 1 rfl) ?_
          refine x_bipush hx hb dX7_comes_86 (by decide +kernel) ?_
          refine x_iadd hx hb dX7_comes_88 ?_
          refine lv_aload_n hx hb dX7_comes_89 rfl (lv_at hl 2 rfl) ?_
          refine m_g_s S hin7 hK hM (hts (.fieldLink RX7 7 "EnergyDiscsModel" "s" "[J") (by decide +kernel)) dX7_comes_90 ?_
          refine x_bipush hx hb dX7_comes_93 (by decide +kernel) ?_
          refine m_l_s S hK hM (by omega) dX7_comes_95 ?_
          refine m_s_s S hK hM hI hS (by omega) dX7_comes_96 (fun H locs hM hS => ?_)
          have hM : mAt D cs a (comD σ k) pa sl sv pd kn ln H := hM
          have eD7 := comD_7 (k := k) h7.1
          refine lv_aload_n hx hb dX7_comes_97 rfl (lv_at hl 2 rfl) ?_
          refine m_g_s S hin7 hK hM (hts (.fieldLink RX7 7 "EnergyDiscsModel" "s" "[J") (by decide +kernel)) dX7_comes_98 ?_
          refine x_bipush hx hb dX7_comes_101 (by decide +kernel) ?_
          refine lv_dup2_11 hx hb dX7_comes_103 rfl rfl ?_
          refine m_l_s S hK hM (by omega) dX7_comes_104 ?_
          refine x_lconst (v := 1) hx hb dX7_comes_105 rfl ?_
          refine x_ladd hx hb dX7_comes_106 ?_
          refine m_s_s S hK hM hI hS (by omega) dX7_comes_107 (fun H locs hM hS => ?_)
          have hM : mAt D cs a (comF σ k) pa sl sv pd kn ln H := hM
          refine lv_aload_n hx hb dX7_comes_108 rfl (lv_at hl 2 rfl) ?_
          refine x_bipush hx hb dX7_comes_109 (by decide +kernel) ?_
          refine x_callVR (As := [.int (zI 7)]) (rest := []) S hK (c_X7_num l D cs a (comF σ k) pa sl sv pd kn ln 7 (by omega)) (cwV 1 hts gX7_comes_X7_num rfl rfl rfl (by decide +kernel) ⟨(Nat.le_of_ble_eq_true rfl), (Nat.le_of_ble_eq_true rfl)⟩) (x_rc hK (mAt_0 hM) rfl) hM rfl hl.1 (Nat.le_of_ble_eq_true rfl) dX7_comes_111 ⟨Nat.zero_le _, Nat.zero_le _⟩ ?_
          refine x_iconst hx hb dX7_comes_114 ?_
          refine x_isub hx hb dX7_comes_115 ?_
          exact x_iretM hx hb hr hlocks (by show comF σ k 7 - 1 = σ 7; unfold comF; rw [up_s, eD7]; omega) hM hS dX7_comes_116
      · refine lv_aload_n hx hb dX7_comes_19 rfl (lv_at hl 2 rfl) ?_
        refine m_g_s S hin7 hK hM (hts (.fieldLink RX7 7 "EnergyDiscsModel" "s" "[J") (by decide +kernel)) dX7_comes_20 ?_
        refine lv_iload_n hx hb dX7_comes_23 rfl (lv_at hl 1 rfl) ?_
        refine lv_iload_n hx hb dX7_comes_24 rfl (lv_at hl 0 rfl) ?_
        refine x_iadd hx hb dX7_comes_25 ?_
        refine x_lconst (v := 0) hx hb dX7_comes_26 rfl ?_
        refine m_s_s S hK hM hI hS (by omega) dX7_comes_27 (fun H locs hM hS => ?_)
        refine x_iinc (x := j) (lv' := [(3, .int (zI (j + 1))), (2, .int (zI (0 + 11 + 13 * (σ 7)))), (0, .ref (a 0)), (1, .int (zI k))]) hx hb dX7_comes_28 hl (k := 0) rfl (by decide) rfl (fun ls hl => ?_)
        refine lv_goto (tgt := 13) hx hb dX7_comes_31 (by decide) ?_
        exact ih13 (j + 1) (up P ((0 + 11 + 13 * (σ 7)) + j) 0) (by omega) (by omega) (by subst hP; exact cpN_step rfl rfl hj.1) H locs hM hS ls (lv_sub hl [0, 1, 2, 3] rfl)
  exact lp13 ((13 - (0 : Int)).toNat + 1) 0 σ (Nat.lt_succ_self _) (by omega) (by exact (cpN_0 _ _ _).symm) s.heap [] hM hS ls (lv_sub hl [0, 1, 2, 3] rfl)
