set_option maxHeartbeats 4000000 in
set_option maxRecDepth 100000 in
theorem c_X2_init (l : Launch) (D : va_G) (cs : Nat → ClassId) (b : Nat) (N : Nat) (hN : N ≤ b) : kI D cs N l yX2_init wsX2_init ({ frames := 2, cells := 22, slots := 152, locals := 42 } : Room) [.ref b] (fun H => nAt D b 1 (fun _ => .inr (1, hoD)) H) (fun H => nAt D b 23 (hcell cs (sq b) hT0) H) (nA b) 22 152 := by
  refine Met.ofW (cc := cX2_init) (maxL := 2) (ret := none) (by decide) rfl ?_
  intro p e s m args below meth c s₁ B hml hv
  obtain ⟨rfl, hK, hZ, hO, hn⟩ := hv
  have hx := B.exec
  have hb := B.bytes
  have hr := B.returns
  have hnm : meth.name = "<init>" := (name_of_methodNamed B.named B.method).1
  have hts := atoms_spec (ws := wsX2_init) B.pre
  have hown : s.vm.findClass RX2 = some m.cls := findClass_of_methodNamed B.named
  have hlocks := B.notSynchronized
  have S : CallFix p m c cX2_init 2 s (([.ref b] : List Value)).toArray wsX2_init RX2 := ⟨hx, hb, hml, hown, hts⟩
  have hS : va_S (nA b) s.heap s.heap [] := va_S.rf
  have hz0 : (s.heap.size : Int) = b + 1 := hn.1
  have hl := lv_entry ([.ref b]) (n := 2) (Nat.le_of_ble_eq_true rfl)
  rw [lg_entry_eq]
  generalize (lg_sl ([.ref b]) ++ List.replicate (2 - (lg_sl ([.ref b])).length) Slot.unset).toArray = ls at hl ⊢
  have hl : lv_has ls 2 [(0, .ref b)] := hl
  have hin2 : ∀ w ∈ wsX20, w ∈ wsX2_init := by decide +kernel
  have hAN : ∀ q, nA b q → N ≤ q := fun q hq => Nat.le_trans hN hq
  obtain ⟨⟨hw0, hw1, hw2⟩, t0, t1, t2, hZ0, hZ1, hZ2⟩ := id hZ
  have lp84 : ∀ (g z : Nat), z + g = 12 → ∀ (H : Heap) (locs : List Loc), nAt D b (11 + (z : Int)) (hcl cs b 6 7 (z : Int)) H → va_S (nA b) s.heap H locs → ∀ (ls : Array Slot), lv_has ls 2 [(1, .int (zI (z : Int))), (0, .ref b)] → W p l e (headSpec wsX2_init ({ frames := 2, cells := 22, slots := 152, locals := 42 } : Room)).room s m ([.ref b] : List Value).toArray below meth c H locs (10 + z) (116 + 3 * z) (MQ below (kQ none (fun H => nAt D b 23 (hcell cs (sq b) hT0) H) (nA b)) ([.ref b] : List Value).toArray s 22 152 (nA b)) (F0 m 84 ls []) := by
    intro g
    induction g with
    | zero =>
      intro z hv0 H locs hn hS ls hl
      have hv2 : z = 12 := by omega
      subst hv2
      refine lv_iload_n hx hb dX2_init_84 rfl (lv_at hl 0 rfl) ?_
      refine x_bipush hx hb dX2_init_85 (by decide +kernel) ?_
      refine x_icmp_ge (tgt := 109) hx hb dX2_init_87 (by decide) (by omega) (by omega) (fun c9 => ?_) (fun c9 => ?_)
      · exact x_vretI (mc := 22) (ms := 152) hx hb hr hlocks (nAt_hcl hn) hS (Nat.le_refl _) (Nat.le_refl _) dX2_init_109
      · exact absurd (by omega) c9
    | succ g ih =>
      intro z hv0 H locs hn hS ls hl
      refine lv_iload_n hx hb dX2_init_84 rfl (lv_at hl 0 rfl) ?_
      refine x_bipush hx hb dX2_init_85 (by decide +kernel) ?_
      refine x_icmp_ge (tgt := 109) hx hb dX2_init_87 (by decide) (by omega) (by omega) (fun c9 => ?_) (fun c9 => ?_)
      · exact absurd c9 (by omega)
      · refine lv_aload_n hx hb dX2_init_90 rfl (lv_at hl 1 rfl) ?_
        refine n_get (C := RX2) (T := TX2) (N := 7) (ci := 1) (i := 0) S hin2 hK rfl 2 (by decide) (hts (.fieldLink RX2 23 "EnergyDiscs$House" "loads" "[LEnergyDiscs$Load;") (by decide +kernel)) (by omega) rfl rfl hn dX2_init_91 ?_
        refine lv_iload_n hx hb dX2_init_94 rfl (lv_at hl 0 rfl) ?_
        refine n_new (C := RX3) (T := TX3) (N := 3) (ci := 2) S (by decide +kernel) tyX3 tyX3_ok (hts (.classLink RX2 21 RX3) (by decide +kernel)) (hts (.instantiable RX3 3) (by decide +kernel)) (hts (.initialized RX3) (by decide +kernel)) hK rfl nwL hn hS (by show 10 + z + 1 ≤ 22; omega) (by show 116 + 3 * z + 3 ≤ 152; omega) dX2_init_95 (fun H hn hS => ?_)
        refine lv_dup hx hb dX2_init_98 rfl ?_
        have hP : lAt D (sq b (11 + (z : Int))) (fun _ => 0) H := by
          have q := nAt_at hn (i := 11 + (z : Int)) (by omega) (by omega)
          rw [upE_s] at q
          exact q
        have hzs := hn.1
        refine x_callI0 (As := []) (rest := [.ref (sq b (11 + (z : Int))), .int (zI (z : Int)), .ref (sq b 3)]) S hK (c_X3_init l D cs (sq b (11 + (z : Int))) (fun _ => 0)) (cwI 0 hts gX2_init_X3_init rfl rfl rfl (hts (.initialized RX3) (by decide +kernel)) (hts (.methodLink RX2 31 yX3_init) (by decide +kernel)) (hts (.instanceMethod yX3_init) (by decide +kernel)) rfl (by decide +kernel) ⟨(Nat.le_of_ble_eq_true rfl), (Nat.le_of_ble_eq_true rfl)⟩) hP rfl hl.1 (Nat.le_of_ble_eq_true rfl) dX2_init_99 ⟨by show 10 + z + 1 ≤ 22; omega, by show 116 + 3 * z + 3 ≤ 152; omega⟩ hS (fun q hq => by rw [hq]; exact nA_sq b _) (fun H locs hB hF hS => ?_)
        refine w_sized (fun hsz => ?_)
        have hn := nAt_back hn hF (fun q hq => hq) (by omega) (by omega) hB (by omega)
        refine n_aast (i := 3) (t := (z : Int)) (v := 11 + (z : Int)) S hK 5 rfl (C := RX3) (T := TX3) (N := 3) (ci := 2) rfl (by omega) ((upE_n (by omega)).trans ((upE_n (by omega)).trans hcl_3)) (by omega) (upE_s _ _ _) (by omega) (by omega) hn hS dX2_init_102 (fun H locs hn hS => ?_)
        have hn : nAt D b (11 + ((z + 1 : Nat) : Int)) (hcl cs b 6 7 ((z + 1 : Nat) : Int)) H := by
          rw [show 11 + ((z + 1 : Nat) : Int) = 11 + (z : Int) + 1 by omega]
          refine nAt_cong hn (fun i h0 h1 => ?_)
          by_cases q3 : i = 3
          · subst q3
            rw [upE_s, hcl_3]
            have e := fqS (g := fun k => sq b (11 + k)) (y := (z : Int)) (by omega)
            rw [show ((z + 1 : Nat) : Int) = (z : Int) + 1 by omega]
            exact congrArg (fun f => (.inl (cs 5, (12, .inr (.inr (.inr (.inr f))))) : va_E)) e.symm
          · rw [upE_n q3]
            by_cases q4 : i = 11 + (z : Int)
            · subst q4; rw [upE_s]; exact hcl_l (by omega)
            · rw [upE_n q4, upE_n q4]; exact hcl_e (Or.inr rfl) (Or.inr rfl) (Or.inl q3)
        refine x_iinc (x := (z : Int)) (lv' := [(1, .int (zI ((z : Int) + 1))), (0, .ref b)]) hx hb dX2_init_103 hl (k := 0) rfl (by decide) rfl (fun ls hl => ?_)
        refine lv_goto (tgt := 84) hx hb dX2_init_106 (by decide) ?_
        exact ih (z + 1) (by omega) H locs hn hS ls hl
  have lp57 : ∀ (g y : Nat), y + g = 7 → ∀ (H : Heap) (locs : List Loc), nAt D b (4 + (y : Int)) (hcl cs b 6 (y : Int) 0) H → va_S (nA b) s.heap H locs → ∀ (ls : Array Slot), lv_has ls 2 [(1, .int (zI (y : Int))), (0, .ref b)] → W p l e (headSpec wsX2_init ({ frames := 2, cells := 22, slots := 152, locals := 42 } : Room)).room s m ([.ref b] : List Value).toArray below meth c H locs (3 + y) (25 + 13 * y) (MQ below (kQ none (fun H => nAt D b 23 (hcell cs (sq b) hT0) H) (nA b)) ([.ref b] : List Value).toArray s 22 152 (nA b)) (F0 m 57 ls []) := by
    intro g
    induction g with
    | zero =>
      intro y hv0 H locs hn hS ls hl
      have hv2 : y = 7 := by omega
      subst hv2
      refine lv_iload_n hx hb dX2_init_57 rfl (lv_at hl 0 rfl) ?_
      refine x_bipush hx hb dX2_init_58 (by decide +kernel) ?_
      refine x_icmp_ge (tgt := 82) hx hb dX2_init_60 (by decide) (by omega) (by omega) (fun c9 => ?_) (fun c9 => ?_)
      · refine x_iconst hx hb dX2_init_82 ?_
        refine lv_istore_n (lv' := [(1, .int (zI 0)), (0, .ref b)]) hx hb dX2_init_83 rfl hl (by decide) rfl (fun ls hl => ?_)
        exact lp84 12 0 rfl H locs hn hS ls hl
      · exact absurd (by omega) c9
    | succ g ih =>
      intro y hv0 H locs hn hS ls hl
      refine lv_iload_n hx hb dX2_init_57 rfl (lv_at hl 0 rfl) ?_
      refine x_bipush hx hb dX2_init_58 (by decide +kernel) ?_
      refine x_icmp_ge (tgt := 82) hx hb dX2_init_60 (by decide) (by omega) (by omega) (fun c9 => ?_) (fun c9 => ?_)
      · exact absurd c9 (by omega)
      · refine lv_aload_n hx hb dX2_init_63 rfl (lv_at hl 1 rfl) ?_
        refine n_get (C := RX2) (T := TX2) (N := 7) (ci := 1) (i := 0) S hin2 hK rfl 1 (by decide) (hts (.fieldLink RX2 17 "EnergyDiscs$House" "meters" "[LEnergyDiscs$Meter;") (by decide +kernel)) (by omega) rfl rfl hn dX2_init_64 ?_
        refine lv_iload_n hx hb dX2_init_67 rfl (lv_at hl 0 rfl) ?_
        refine n_new (C := RX4) (T := TX4) (N := 13) (ci := 3) S (by decide +kernel) tyX4 tyX4_ok (hts (.classLink RX2 15 RX4) (by decide +kernel)) (hts (.instantiable RX4 13) (by decide +kernel)) (hts (.initialized RX4) (by decide +kernel)) hK rfl nwM hn hS (by show 3 + y + 1 ≤ 22; omega) (by show 25 + 13 * y + 13 ≤ 152; omega) dX2_init_68 (fun H hn hS => ?_)
        refine lv_dup hx hb dX2_init_71 rfl ?_
        have hP : tAt D (sq b (4 + (y : Int))) (fun _ => 0) H := by
          have q := nAt_at hn (i := 4 + (y : Int)) (by omega) (by omega)
          rw [upE_s] at q
          exact q
        have hzs := hn.1
        refine x_callI0 (As := []) (rest := [.ref (sq b (4 + (y : Int))), .int (zI (y : Int)), .ref (sq b 2)]) S hK (c_X4_init l D cs (sq b (4 + (y : Int))) (fun _ => 0)) (cwI 0 hts gX2_init_X4_init rfl rfl rfl (hts (.initialized RX4) (by decide +kernel)) (hts (.methodLink RX2 30 yX4_init) (by decide +kernel)) (hts (.instanceMethod yX4_init) (by decide +kernel)) rfl (by decide +kernel) ⟨(Nat.le_of_ble_eq_true rfl), (Nat.le_of_ble_eq_true rfl)⟩) hP rfl hl.1 (Nat.le_of_ble_eq_true rfl) dX2_init_72 ⟨by show 3 + y + 1 ≤ 22; omega, by show 25 + 13 * y + 13 ≤ 152; omega⟩ hS (fun q hq => by rw [hq]; exact nA_sq b _) (fun H locs hB hF hS => ?_)
        refine w_sized (fun hsz => ?_)
        have hn := nAt_back hn hF (fun q hq => hq) (by omega) (by omega) hB (by omega)
        refine n_aast (i := 2) (t := (y : Int)) (v := 4 + (y : Int)) S hK 4 rfl (C := RX4) (T := TX4) (N := 13) (ci := 3) rfl (by omega) ((upE_n (by omega)).trans ((upE_n (by omega)).trans hcl_2)) (by omega) (upE_s _ _ _) (by omega) (by omega) hn hS dX2_init_75 (fun H locs hn hS => ?_)
        have hn : nAt D b (4 + ((y + 1 : Nat) : Int)) (hcl cs b 6 ((y + 1 : Nat) : Int) 0) H := by
          rw [show 4 + ((y + 1 : Nat) : Int) = 4 + (y : Int) + 1 by omega]
          refine nAt_cong hn (fun i h0 h1 => ?_)
          by_cases q3 : i = 2
          · subst q3
            rw [upE_s, hcl_2]
            have e := fqS (g := fun k => sq b (4 + k)) (y := (y : Int)) (by omega)
            rw [show ((y + 1 : Nat) : Int) = (y : Int) + 1 by omega]
            exact congrArg (fun f => (.inl (cs 4, (7, .inr (.inr (.inr (.inr f))))) : va_E)) e.symm
          · rw [upE_n q3]
            by_cases q4 : i = 4 + (y : Int)
            · subst q4; rw [upE_s]; exact hcl_m (by omega) (by omega)
            · rw [upE_n q4, upE_n q4]; exact hcl_e (Or.inr rfl) (Or.inl q3) (Or.inr rfl)
        refine x_iinc (x := (y : Int)) (lv' := [(1, .int (zI ((y : Int) + 1))), (0, .ref b)]) hx hb dX2_init_76 hl (k := 0) rfl (by decide) rfl (fun ls hl => ?_)
        refine lv_goto (tgt := 57) hx hb dX2_init_79 (by decide) ?_
        exact ih (y + 1) (by omega) H locs hn hS ls hl
  have lp32 : ∀ (g x : Nat), x + g = 6 → ∀ (H : Heap) (locs : List Loc), nAt D b 4 (hcl cs b (x : Int) 0 0) H → va_S (nA b) s.heap H locs → ∀ (ls : Array Slot), lv_has ls 2 [(1, .int (zI (x : Int))), (0, .ref b)] → W p l e (headSpec wsX2_init ({ frames := 2, cells := 22, slots := 152, locals := 42 } : Room)).room s m ([.ref b] : List Value).toArray below meth c H locs 3 25 (MQ below (kQ none (fun H => nAt D b 23 (hcell cs (sq b) hT0) H) (nA b)) ([.ref b] : List Value).toArray s 22 152 (nA b)) (F0 m 32 ls []) := by
    intro g
    induction g with
    | zero =>
      intro x hx6 H locs hn hS ls hl
      have hx2 : x = 6 := by omega
      subst hx2
      refine lv_iload_n hx hb dX2_init_32 rfl (lv_at hl 0 rfl) ?_
      refine x_bipush hx hb dX2_init_33 (by decide +kernel) ?_
      refine x_icmp_ge (tgt := 55) hx hb dX2_init_35 (by decide) (by omega) (by omega) (fun c9 => ?_) (fun c9 => ?_)
      · refine x_iconst hx hb dX2_init_55 ?_
        refine lv_istore_n (lv' := [(1, .int (zI 0)), (0, .ref b)]) hx hb dX2_init_56 rfl hl (by decide) rfl (fun ls hl => ?_)
        exact lp57 7 0 rfl H locs hn hS ls hl
      · exact absurd (by omega) c9
    | succ g ih =>
      intro x hx6 H locs hn hS ls hl
      refine lv_iload_n hx hb dX2_init_32 rfl (lv_at hl 0 rfl) ?_
      refine x_bipush hx hb dX2_init_33 (by decide +kernel) ?_
      refine x_icmp_ge (tgt := 55) hx hb dX2_init_35 (by decide) (by omega) (by omega) (fun c9 => ?_) (fun c9 => ?_)
      · exact absurd c9 (by omega)
      · refine lv_aload_n hx hb dX2_init_38 rfl (lv_at hl 1 rfl) ?_
        refine n_get (C := RX2) (T := TX2) (N := 7) (ci := 1) (i := 0) S hin2 hK rfl 0 (by decide) (hts (.fieldLink RX2 9 "EnergyDiscs$House" "settings" "[I") (by decide +kernel)) (by omega) rfl rfl hn dX2_init_39 ?_
        refine lv_iload_n hx hb dX2_init_42 rfl (lv_at hl 0 rfl) ?_
        refine x_getsZ S hZ0 hS hAN hw0 dX2_init_43 ?_
        refine lv_iload_n hx hb dX2_init_46 rfl (lv_at hl 0 rfl) ?_
        refine x_tldZ S hZ0 hS hAN (i := (x : Int)) (by omega) dX2_init_47 ?_
        refine n_iast (i := 1) (t := (x : Int)) S hK (by omega) hcl_1 (by omega) (by omega) hn hS dX2_init_48 (fun H locs hn hS => ?_)
        have hn : nAt D b 4 (hcl cs b ((x + 1 : Nat) : Int) 0 0) H := by
          refine nAt_cong hn (fun i h0 h1 => ?_)
          by_cases q3 : i = 1
          · subst q3
            rw [upE_s, hcl_1]
            have e := fzS (g := fsS) (x := (x : Int)) (by omega)
            rw [show ((x + 1 : Nat) : Int) = (x : Int) + 1 by omega]
            exact congrArg (fun f => (.inl (cs 0, (6, .inl f)) : va_E)) e.symm
          · rw [upE_n q3]; exact hcl_e (Or.inl q3) (Or.inr rfl) (Or.inr rfl)
        refine x_iinc (x := (x : Int)) (lv' := [(1, .int (zI ((x : Int) + 1))), (0, .ref b)]) hx hb dX2_init_49 hl (k := 0) rfl (by decide) rfl (fun ls hl => ?_)
        refine lv_goto (tgt := 32) hx hb dX2_init_52 (by decide) ?_
        exact ih (x + 1) (by omega) H locs hn hS ls hl
  refine lv_aload_n hx hb dX2_init_0 rfl (lv_at hl 0 rfl) ?_
  refine W.objInit hx hb S.2.2.2.1 (hts (.methodLink RX2 3 objectInit) (by decide +kernel)) (hts (.instanceMethod objectInit) (by decide +kernel)) (hts (.code objectInit ⟨#[0xb1]⟩ 1 none) (by decide +kernel)) rfl (by rw [S.2.2.1]; exact hl.1) rfl dX2_init_1 (Nat.le_of_ble_eq_true rfl) (Nat.le_of_ble_eq_true rfl) ?_
  refine lv_aload_n hx hb dX2_init_4 rfl (lv_at hl 0 rfl) ?_
  refine x_bipush hx hb dX2_init_5 (by decide +kernel) ?_
  refine n_newI (N := 6) S (hts (.arrayClass .int) (by decide +kernel)) hK rfl (by decide) hn hS (Nat.le_of_ble_eq_true rfl) (Nat.le_of_ble_eq_true rfl) dX2_init_7 (fun H hn hS => ?_)
  refine n_putF (C := RX2) (T := TX2) (N := 7) (ci := 1) (i := 0) S hin2 tyX2 tyX2_ok nmX2 hK rfl 0 (by decide) (hts (.fieldLink RX2 9 "EnergyDiscs$House" "settings" "[I") (by decide +kernel)) rfl hnm rfl rfl rfl (by omega) ((upE_n (by omega))) (Nat.le_of_ble_eq_true rfl) hn hS dX2_init_9 (fun H locs hn hS => ?_)
  refine lv_aload_n hx hb dX2_init_12 rfl (lv_at hl 0 rfl) ?_
  refine x_bipush hx hb dX2_init_13 (by decide +kernel) ?_
  refine n_newQ (N := 7) S 4 rfl (hts (.classLink RX2 15 RX4) (by decide +kernel)) hO.1 hK rfl (by decide) hn hS (Nat.le_of_ble_eq_true rfl) (Nat.le_of_ble_eq_true rfl) dX2_init_15 (fun H hn hS => ?_)
  refine n_putF (C := RX2) (T := TX2) (N := 7) (ci := 1) (i := 0) S hin2 tyX2 tyX2_ok nmX2 hK rfl 1 (by decide) (hts (.fieldLink RX2 17 "EnergyDiscs$House" "meters" "[LEnergyDiscs$Meter;") (by decide +kernel)) rfl hnm rfl rfl rfl (by omega) ((upE_n (by omega)).trans (upE_s _ _ _)) (Nat.le_of_ble_eq_true rfl) hn hS dX2_init_18 (fun H locs hn hS => ?_)
  refine lv_aload_n hx hb dX2_init_21 rfl (lv_at hl 0 rfl) ?_
  refine x_bipush hx hb dX2_init_22 (by decide +kernel) ?_
  refine n_newQ (N := 12) S 5 rfl (hts (.classLink RX2 21 RX3) (by decide +kernel)) hO.2.1 hK rfl (by decide) hn hS (Nat.le_of_ble_eq_true rfl) (Nat.le_of_ble_eq_true rfl) dX2_init_24 (fun H hn hS => ?_)
  refine n_putF (C := RX2) (T := TX2) (N := 7) (ci := 1) (i := 0) S hin2 tyX2 tyX2_ok nmX2 hK rfl 2 (by decide) (hts (.fieldLink RX2 23 "EnergyDiscs$House" "loads" "[LEnergyDiscs$Load;") (by decide +kernel)) rfl hnm rfl rfl rfl (by omega) ((upE_n (by omega)).trans (upE_s _ _ _)) (Nat.le_of_ble_eq_true rfl) hn hS dX2_init_27 (fun H locs hn hS => ?_)
  have hn : nAt D b 4 (hcl cs b ((0 : Nat) : Int) 0 0) H := by
    refine nAt_cong hn (fun i h0 h1 => ?_)
    rcases (show i = 0 ∨ i = 1 ∨ i = 2 ∨ i = 3 by omega) with h | h | h | h <;> subst h
    · rfl
    · exact congrArg (fun f => (.inl (cs 0, (6, .inl f)) : va_E)) fz0
    · exact congrArg (fun f => (.inl (cs 4, (7, .inr (.inr (.inr (.inr f))))) : va_E)) fq0
    · exact congrArg (fun f => (.inl (cs 5, (12, .inr (.inr (.inr (.inr f))))) : va_E)) fq0
  refine x_iconst hx hb dX2_init_30 ?_
  refine lv_istore_n (lv' := [(1, .int (zI 0)), (0, .ref b)]) hx hb dX2_init_31 rfl hl (by decide) rfl (fun ls hl => ?_)
  exact lp32 6 0 rfl H locs hn hS ls hl
