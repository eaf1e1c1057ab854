set_option maxHeartbeats 4000000 in
set_option maxRecDepth 100000 in
theorem c_X1_init (l : Launch) (D : va_G) (cs : Nat → ClassId) (b : Nat) (N : Nat) (hN : N ≤ b) : kI D cs N l yX1_init wsX1_init ({ frames := 3, cells := 162, slots := 1120, locals := 63 } : Room) [.ref b] (fun H => nAt D b 1 (fun _ => .inr (0, hyD)) H) (fun H => nAt D b 163 (ycl cs b 7) H) (nA b) 162 1120 := by
  refine Met.ofW (cc := cX1_init) (maxL := 2) (ret := none) (by decide) rfl ?_
  intro p e s m args below meth c s₁ B hml hv
  obtain ⟨rfl, hK, hZ, hO, hn⟩ := hv
  have hx := B.exec
  have hb := B.bytes
  have hr := B.returns
  have hnm : meth.name = "<init>" := (name_of_methodNamed B.named B.method).1
  have hts := atoms_spec (ws := wsX1_init) B.pre
  have hown : s.vm.findClass RX1 = some m.cls := findClass_of_methodNamed B.named
  have hlocks := B.notSynchronized
  have S : CallFix p m c cX1_init 2 s (([.ref b] : List Value)).toArray wsX1_init RX1 := ⟨hx, hb, hml, hown, hts⟩
  have hS : va_S (nA b) s.heap s.heap [] := va_S.rf
  have hz0 : (s.heap.size : Int) = b + 1 := hn.1
  have hl := lv_entry ([.ref b]) (n := 2) (Nat.le_of_ble_eq_true rfl)
  rw [lg_entry_eq]
  generalize (lg_sl ([.ref b]) ++ List.replicate (2 - (lg_sl ([.ref b])).length) Slot.unset).toArray = ls at hl ⊢
  have hl : lv_has ls 2 [(0, .ref b)] := hl
  have hin1 : ∀ w ∈ wsX10, w ∈ wsX1_init := by decide +kernel
  have hAN : ∀ q, nA b q → N ≤ q := fun q hq => Nat.le_trans hN hq
  have lp15 : ∀ (g x : Nat), x + g = 7 → ∀ (H : Heap) (locs : List Loc), nAt D b (2 + 23 * (x : Int)) (ycl cs b (x : Int)) H → va_S (nA b) s.heap H locs → ∀ (ls : Array Slot), lv_has ls 2 [(1, .int (zI (x : Int))), (0, .ref b)] → W p l e (headSpec wsX1_init ({ frames := 3, cells := 162, slots := 1120, locals := 63 } : Room)).room s m ([.ref b] : List Value).toArray below meth c H locs (1 + 23 * x) (7 + 159 * x) (MQ below (kQ none (fun H => nAt D b 163 (ycl cs b 7) H) (nA b)) ([.ref b] : List Value).toArray s 162 1120 (nA b)) (F0 m 15 ls []) := by
    intro g
    induction g with
    | zero =>
      intro x hv0 H locs hn hS ls hl
      have hv2 : x = 7 := by omega
      subst hv2
      refine lv_iload_n hx hb dX1_init_15 rfl (lv_at hl 0 rfl) ?_
      refine x_bipush hx hb dX1_init_16 (by decide +kernel) ?_
      refine x_icmp_ge (tgt := 40) hx hb dX1_init_18 (by decide) (by omega) (by omega) (fun c9 => ?_) (fun c9 => ?_)
      · refine lv_aload_n hx hb dX1_init_40 rfl (lv_at hl 1 rfl) ?_
        refine x_iconst hx hb dX1_init_41 ?_
        refine n_put (C := RX1) (T := TX1) (N := 3) (ci := 0) (i := 0) S hin1 tyX1 tyX1_ok nmX1 hK rfl 1 (by decide) (hts (.fieldLink RX1 18 "EnergyDiscs$History" "free" "I") (by decide +kernel)) rfl rfl rfl (by omega) (rfl) (Nat.le_of_ble_eq_true rfl) hn hS dX1_init_42 (fun H locs hn hS => ?_)
        refine lv_aload_n hx hb dX1_init_45 rfl (lv_at hl 1 rfl) ?_
        refine x_iconst hx hb dX1_init_46 ?_
        refine n_put (C := RX1) (T := TX1) (N := 3) (ci := 0) (i := 0) S hin1 tyX1 tyX1_ok nmX1 hK rfl 2 (by decide) (hts (.fieldLink RX1 22 "EnergyDiscs$History" "kept" "I") (by decide +kernel)) rfl rfl rfl (by omega) (upE_s _ _ _) (Nat.le_of_ble_eq_true rfl) hn hS dX1_init_47 (fun H locs hn hS => ?_)
        refine x_vretI (mc := 162) (ms := 1120) hx hb hr hlocks (nAt_cong hn (fun i h0 h1 => ?_)) hS (Nat.le_refl _) (Nat.le_refl _) dX1_init_50
        by_cases q : i = 0
        · subst q; rfl
        · rw [upE_n q, upE_n q]; rfl
      · exact absurd (by omega) c9
    | succ g ih =>
      intro x hv0 H locs hn hS ls hl
      refine lv_iload_n hx hb dX1_init_15 rfl (lv_at hl 0 rfl) ?_
      refine x_bipush hx hb dX1_init_16 (by decide +kernel) ?_
      refine x_icmp_ge (tgt := 40) hx hb dX1_init_18 (by decide) (by omega) (by omega) (fun c9 => ?_) (fun c9 => ?_)
      · exact absurd c9 (by omega)
      · refine lv_aload_n hx hb dX1_init_21 rfl (lv_at hl 1 rfl) ?_
        refine n_get (C := RX1) (T := TX1) (N := 3) (ci := 0) (i := 0) S hin1 hK rfl 0 (by decide) (hts (.fieldLink RX1 13 "EnergyDiscs$History" "states" "[LEnergyDiscs$House;") (by decide +kernel)) (by omega) rfl rfl hn dX1_init_22 ?_
        refine lv_iload_n hx hb dX1_init_25 rfl (lv_at hl 0 rfl) ?_
        refine n_new (C := RX2) (T := TX2) (N := 7) (ci := 1) S (by decide +kernel) tyX2 tyX2_ok (hts (.classLink RX1 11 RX2) (by decide +kernel)) (hts (.instantiable RX2 7) (by decide +kernel)) (hts (.initialized RX2) (by decide +kernel)) hK rfl nwH hn hS (by show 1 + 23 * x + 1 ≤ 162; omega) (by show 7 + 159 * x + 7 ≤ 1120; omega) dX1_init_26 (fun H hn hS => ?_)
        refine lv_dup hx hb dX1_init_29 rfl ?_
        have hP := nAt_last hn (by omega)
        refine x_callI (As := []) (rest := [.ref (sq b (2 + 23 * (x : Int))), .int (zI (x : Int)), .ref (sq b 1)]) S hK (kZ.keptS hZ hS hAN) hO (c_X2_init l D cs (sq b (2 + 23 * (x : Int))) N (Nat.le_trans hN (Nat.le_add_right _ _))) (cwI 0 hts gX1_init_X2_init rfl rfl rfl (hts (.initialized RX2) (by decide +kernel)) (hts (.methodLink RX1 17 yX2_init) (by decide +kernel)) (hts (.instanceMethod yX2_init) (by decide +kernel)) rfl (by decide +kernel) ⟨(Nat.le_of_ble_eq_true rfl), (Nat.le_of_ble_eq_true rfl)⟩) hP rfl hl.1 (Nat.le_of_ble_eq_true rfl) dX1_init_30 ⟨by show 1 + 23 * x + 1 + 22 ≤ 162; omega, by show 7 + 159 * x + 7 + 152 ≤ 1120; omega⟩ hS (fun q hq => Nat.le_trans (Nat.le_add_right _ _) hq) (fun H locs hB hF hS => ?_)
        have hn := nAt_join (m := 2 + 23 * (x : Int)) (k := 23) (cell3 := ycl cs b (x : Int)) hn (by omega) hF hB (fun i h0 h1 => (upE_n (by omega)).symm) (fun i h0 h1 => ycl_h (by omega) h0 h1)
        have hv0c : ycl cs b (x : Int) (2 + 23 * (x : Int)) = .inr (1, hoL (sq (sq b (2 + 23 * (x : Int)))) hT0) := (show ycl cs b (x : Int) (2 + 23 * (x : Int) + 0) = _ from ycl_h (by omega) (by decide) (by decide))
        refine n_aast (i := 1) (t := (x : Int)) (v := 2 + 23 * (x : Int)) S hK 6 rfl (C := RX2) (T := TX2) (N := 7) (ci := 1) rfl (by omega) ycl_1 (by omega) hv0c (by omega) (by omega) hn hS dX1_init_33 (fun H locs hn hS => ?_)
        have hn : nAt D b (2 + 23 * ((x + 1 : Nat) : Int)) (ycl cs b ((x + 1 : Nat) : Int)) H := by
          rw [show 2 + 23 * ((x + 1 : Nat) : Int) = 2 + 23 * (x : Int) + 23 by omega]
          refine nAt_cong hn (fun i h0 h1 => ?_)
          by_cases q3 : i = 1
          · subst q3
            rw [upE_s, ycl_1]
            have e := fqS (g := fun k => sq b (2 + 23 * k)) (y := (x : Int)) (by omega)
            rw [show ((x + 1 : Nat) : Int) = (x : Int) + 1 by omega]
            exact congrArg (fun f => (.inl (cs 6, (7, .inr (.inr (.inr (.inr f))))) : va_E)) e.symm
          · rw [upE_n q3]; exact ycl_e (Or.inl q3)
        refine x_iinc (x := (x : Int)) (lv' := [(1, .int (zI ((x : Int) + 1))), (0, .ref b)]) hx hb dX1_init_34 hl (k := 0) rfl (by decide) rfl (fun ls hl => ?_)
        refine lv_goto (tgt := 15) hx hb dX1_init_37 (by decide) ?_
        refine W.widen (k := 1 + 23 * (x + 1)) (n := 7 + 159 * (x + 1)) (by omega) (by omega) ?_
        exact ih (x + 1) (by omega) H locs hn hS ls hl
  refine lv_aload_n hx hb dX1_init_0 rfl (lv_at hl 0 rfl) ?_
  refine W.objInit hx hb S.2.2.2.1 (hts (.methodLink RX1 3 objectInit) (by decide +kernel)) (hts (.instanceMethod objectInit) (by decide +kernel)) (hts (.code objectInit ⟨#[0xb1]⟩ 1 none) (by decide +kernel)) rfl (by rw [S.2.2.1]; exact hl.1) rfl dX1_init_1 (Nat.le_of_ble_eq_true rfl) (Nat.le_of_ble_eq_true rfl) ?_
  refine lv_aload_n hx hb dX1_init_4 rfl (lv_at hl 0 rfl) ?_
  refine x_bipush hx hb dX1_init_5 (by decide +kernel) ?_
  refine n_newQ (N := 7) S 6 rfl (hts (.classLink RX1 11 RX2) (by decide +kernel)) hO.2.2 hK rfl (by decide) hn hS (Nat.le_of_ble_eq_true rfl) (Nat.le_of_ble_eq_true rfl) dX1_init_7 (fun H hn hS => ?_)
  refine n_putF (C := RX1) (T := TX1) (N := 3) (ci := 0) (i := 0) S hin1 tyX1 tyX1_ok nmX1 hK rfl 0 (by decide) (hts (.fieldLink RX1 13 "EnergyDiscs$History" "states" "[LEnergyDiscs$House;") (by decide +kernel)) rfl hnm rfl rfl rfl (by omega) ((upE_n (by omega))) (Nat.le_of_ble_eq_true rfl) hn hS dX1_init_10 (fun H locs hn hS => ?_)
  have hn : nAt D b (2 + 23 * ((0 : Nat) : Int)) (ycl cs b ((0 : Nat) : Int)) H := by
    refine nAt_cong (n := 2) hn (fun i h0 h1 => ?_)
    rcases (show i = 0 ∨ i = 1 by omega) with h | h <;> subst h
    · rfl
    · exact congrArg (fun f => (.inl (cs 6, (7, .inr (.inr (.inr (.inr f))))) : va_E)) fq0
  refine x_iconst hx hb dX1_init_13 ?_
  refine lv_istore_n (lv' := [(1, .int (zI 0)), (0, .ref b)]) hx hb dX1_init_14 rfl hl (by decide) rfl (fun ls hl => ?_)
  exact lp15 7 0 rfl H locs hn hS ls hl
set_option maxHeartbeats 4000000 in
set_option maxRecDepth 100000 in
theorem c_X6_init (l : Launch) (D : va_G) (cs : Nat → ClassId) (b : Nat) (N : Nat) (hN : N ≤ b) : kI D cs N l yX6_init wsX6_init ({ frames := 4, cells := 237, slots := 1699, locals := 84 } : Room) [.ref b] (fun H => nAt D b 1 (fun _ => .inr (5, edD)) H) (fun H => (H.size : Int) = b + 238 ∧ eAt D cs (ea b) hT0 (fun _ => hT0) (fun _ => hT0) (bgM (-6) 0) (fun _ => 0) 0 0 0 (fun _ => 0) H) (nA b) 237 1699 := by
  refine Met.ofW (cc := cX6_init) (maxL := 2) (ret := none) (by decide) rfl ?_
  intro p e s m args below meth c s₁ B hml hv
  obtain ⟨rfl, hK, hZ, hO, hn⟩ := hv
  have hx := B.exec
  have hb := B.bytes
  have hr := B.returns
  have hnm : meth.name = "<init>" := (name_of_methodNamed B.named B.method).1
  have hts := atoms_spec (ws := wsX6_init) B.pre
  have hown : s.vm.findClass RX6 = some m.cls := findClass_of_methodNamed B.named
  have hlocks := B.notSynchronized
  have S : CallFix p m c cX6_init 2 s (([.ref b] : List Value)).toArray wsX6_init RX6 := ⟨hx, hb, hml, hown, hts⟩
  have hS : va_S (nA b) s.heap s.heap [] := va_S.rf
  have hz0 : (s.heap.size : Int) = b + 1 := hn.1
  have hl := lv_entry ([.ref b]) (n := 2) (Nat.le_of_ble_eq_true rfl)
  rw [lg_entry_eq]
  generalize (lg_sl ([.ref b]) ++ List.replicate (2 - (lg_sl ([.ref b])).length) Slot.unset).toArray = ls at hl ⊢
  have hl : lv_has ls 2 [(0, .ref b)] := hl
  have hin6 : ∀ w ∈ wsX60, w ∈ wsX6_init := by decide +kernel
  have hAN : ∀ q, nA b q → N ≤ q := fun q hq => Nat.le_trans hN hq
  have hqb : ∀ n : Int, N ≤ sq b n := fun n => Nat.le_trans hN (Nat.le_add_right _ _)
  have lp65 : ∀ (g x : Nat), x + g = 2 → ∀ (H : Heap) (locs : List Loc), nAt D b (192 + 23 * (x : Int)) (xcl cs b (edF b) (x : Int)) H → va_S (nA b) s.heap H locs → ∀ (ls : Array Slot), lv_has ls 2 [(1, .int (zI (x : Int))), (0, .ref b)] → W p l e (headSpec wsX6_init ({ frames := 4, cells := 237, slots := 1699, locals := 84 } : Room)).room s m ([.ref b] : List Value).toArray below meth c H locs (191 + 23 * x) (1381 + 159 * x) (MQ below (kQ none (fun H => (H.size : Int) = b + 238 ∧ eAt D cs (ea b) hT0 (fun _ => hT0) (fun _ => hT0) (bgM (-6) 0) (fun _ => 0) 0 0 0 (fun _ => 0) H) (nA b)) ([.ref b] : List Value).toArray s 237 1699 (nA b)) (F0 m 65 ls []) := by
    intro g
    induction g with
    | zero =>
      intro x hv0 H locs hn hS ls hl
      have hv2 : x = 2 := by omega
      subst hv2
      refine lv_iload_n hx hb dX6_init_65 rfl (lv_at hl 0 rfl) ?_
      refine x_iconst hx hb dX6_init_66 ?_
      refine x_icmp_ge (tgt := 89) hx hb dX6_init_67 (by decide) (by omega) (by omega) (fun c9 => ?_) (fun c9 => ?_)
      · exact x_vretI (mc := 237) (ms := 1699) hx hb hr hlocks ⟨hn.1, eAt_born hn⟩ hS (Nat.le_refl _) (Nat.le_refl _) dX6_init_89
      · exact absurd (by omega) c9
    | succ g ih =>
      intro x hv0 H locs hn hS ls hl
      refine lv_iload_n hx hb dX6_init_65 rfl (lv_at hl 0 rfl) ?_
      refine x_iconst hx hb dX6_init_66 ?_
      refine x_icmp_ge (tgt := 89) hx hb dX6_init_67 (by decide) (by omega) (by omega) (fun c9 => ?_) (fun c9 => ?_)
      · exact absurd c9 (by omega)
      · refine lv_aload_n hx hb dX6_init_70 rfl (lv_at hl 1 rfl) ?_
        refine n_get (C := RX6) (T := TX6) (N := 6) (ci := 5) (i := 0) S hin6 hK rfl 4 (by decide) (hts (.fieldLink RX6 37 "EnergyDiscs" "slots" "[LEnergyDiscs$House;") (by decide +kernel)) (by omega) xcl_0 rfl hn dX6_init_71 ?_
        refine lv_iload_n hx hb dX6_init_74 rfl (lv_at hl 0 rfl) ?_
        refine n_new (C := RX2) (T := TX2) (N := 7) (ci := 1) S (by decide +kernel) tyX2 tyX2_ok (hts (.classLink RX6 7 RX2) (by decide +kernel)) (hts (.instantiable RX2 7) (by decide +kernel)) (hts (.initialized RX2) (by decide +kernel)) hK rfl nwH hn hS (by show 191 + 23 * x + 1 ≤ 237; omega) (by show 1381 + 159 * x + 7 ≤ 1699; omega) dX6_init_75 (fun H hn hS => ?_)
        refine lv_dup hx hb dX6_init_78 rfl ?_
        have hP := nAt_last hn (by omega)
        refine x_callI (As := []) (rest := [.ref (sq b (192 + 23 * (x : Int))), .int (zI (x : Int)), .ref (sq b 190)]) S hK (kZ.keptS hZ hS hAN) hO (c_X2_init l D cs (sq b (192 + 23 * (x : Int))) N (hqb _)) (cwI 0 hts gX6_init_X2_init rfl rfl rfl (hts (.initialized RX2) (by decide +kernel)) (hts (.methodLink RX6 9 yX2_init) (by decide +kernel)) (hts (.instanceMethod yX2_init) (by decide +kernel)) rfl (by decide +kernel) ⟨(Nat.le_of_ble_eq_true rfl), (Nat.le_of_ble_eq_true rfl)⟩) hP rfl hl.1 (Nat.le_of_ble_eq_true rfl) dX6_init_79 ⟨by show 191 + 23 * x + 1 + 22 ≤ 237; omega, by show 1381 + 159 * x + 7 + 152 ≤ 1699; omega⟩ hS (fun q hq => Nat.le_trans (Nat.le_add_right _ _) hq) (fun H locs hB hF hS => ?_)
        have hn := nAt_join (m := 192 + 23 * (x : Int)) (k := 23) (cell3 := xcl cs b (edF b) (x : Int)) hn (by omega) hF hB (fun i h0 h1 => (upE_n (by omega)).symm) (fun i h0 h1 => xcl_s (by omega) h0 h1)
        have hv0c : xcl cs b (edF b) (x : Int) (192 + 23 * (x : Int)) = .inr (1, hoL (sq (sq b (192 + 23 * (x : Int)))) hT0) := (show xcl cs b (edF b) (x : Int) (192 + 23 * (x : Int) + 0) = _ from xcl_s (by omega) (by decide) (by decide))
        refine n_aast (i := 190) (t := (x : Int)) (v := 192 + 23 * (x : Int)) S hK 6 rfl (C := RX2) (T := TX2) (N := 7) (ci := 1) rfl (by omega) xcl_q (by omega) hv0c (by omega) (by omega) hn hS dX6_init_82 (fun H locs hn hS => ?_)
        have hn : nAt D b (192 + 23 * ((x + 1 : Nat) : Int)) (xcl cs b (edF b) ((x + 1 : Nat) : Int)) H := by
          rw [show 192 + 23 * ((x + 1 : Nat) : Int) = 192 + 23 * (x : Int) + 23 by omega]
          refine nAt_cong hn (fun i h0 h1 => ?_)
          by_cases q3 : i = 190
          · subst q3
            rw [upE_s, xcl_q]
            have e := fqS (g := fun k => sq b (192 + 23 * k)) (y := (x : Int)) (by omega)
            rw [show ((x + 1 : Nat) : Int) = (x : Int) + 1 by omega]
            exact congrArg (fun f => (.inl (cs 6, (2, .inr (.inr (.inr (.inr f))))) : va_E)) e.symm
          · rw [upE_n q3]; exact xcl_e (Or.inr rfl) (Or.inl q3)
        refine x_iinc (x := (x : Int)) (lv' := [(1, .int (zI ((x : Int) + 1))), (0, .ref b)]) hx hb dX6_init_83 hl (k := 0) rfl (by decide) rfl (fun ls hl => ?_)
        refine lv_goto (tgt := 65) hx hb dX6_init_86 (by decide) ?_
        refine W.widen (k := 191 + 23 * (x + 1)) (n := 1381 + 159 * (x + 1)) (by omega) (by omega) ?_
        exact ih (x + 1) (by omega) H locs hn hS ls hl
  refine lv_aload_n hx hb dX6_init_0 rfl (lv_at hl 0 rfl) ?_
  refine W.objInit hx hb S.2.2.2.1 (hts (.methodLink RX6 1 objectInit) (by decide +kernel)) (hts (.instanceMethod objectInit) (by decide +kernel)) (hts (.code objectInit ⟨#[0xb1]⟩ 1 none) (by decide +kernel)) rfl (by rw [S.2.2.1]; exact hl.1) rfl dX6_init_1 (Nat.le_of_ble_eq_true rfl) (Nat.le_of_ble_eq_true rfl) ?_
  have hn : nAt D b 1 (xcl cs b [.null, .null, .null, .null, .null, .null] 0) s.heap := nAt_cong hn (fun i h0 h1 => by rw [show i = 0 by omega]; rfl)
  refine lv_aload_n hx hb dX6_init_4 rfl (lv_at hl 0 rfl) ?_
  refine n_new (C := RX2) (T := TX2) (N := 7) (ci := 1) S (by decide +kernel) tyX2 tyX2_ok (hts (.classLink RX6 7 RX2) (by decide +kernel)) (hts (.instantiable RX2 7) (by decide +kernel)) (hts (.initialized RX2) (by decide +kernel)) hK rfl nwH hn hS (Nat.le_of_ble_eq_true rfl) (Nat.le_of_ble_eq_true rfl) dX6_init_5 (fun H hn hS => ?_)
  refine lv_dup hx hb dX6_init_8 rfl ?_
  have hP := nAt_last hn (by omega)
  refine x_callI (As := []) (rest := [.ref (sq b 1), .ref b]) S hK (kZ.keptS hZ hS hAN) hO (c_X2_init l D cs (sq b 1) N (hqb _)) (cwI 0 hts gX6_init_X2_init rfl rfl rfl (hts (.initialized RX2) (by decide +kernel)) (hts (.methodLink RX6 9 yX2_init) (by decide +kernel)) (hts (.instanceMethod yX2_init) (by decide +kernel)) rfl (by decide +kernel) ⟨(Nat.le_of_ble_eq_true rfl), (Nat.le_of_ble_eq_true rfl)⟩) hP rfl hl.1 (Nat.le_of_ble_eq_true rfl) dX6_init_9 ⟨(Nat.le_of_ble_eq_true rfl), (Nat.le_of_ble_eq_true rfl)⟩ hS (fun q hq => Nat.le_trans (Nat.le_add_right _ _) hq) (fun H locs hB hF hS => ?_)
  have hn := nAt_join (m := 1) (k := 23) (cell3 := xcl cs b [.null, .null, .null, .null, .null, .null] 0) hn (by omega) hF hB (fun i h0 h1 => (upE_n (by omega)).symm) (fun i h0 h1 => xcl_h h0 h1)
  refine n_putF (C := RX6) (T := TX6) (N := 6) (ci := 5) (i := 0) S hin6 tyX6 tyX6_ok nmX6 hK rfl 0 (by decide) (hts (.fieldLink RX6 10 "EnergyDiscs" "house" "LEnergyDiscs$House;") (by decide +kernel)) rfl hnm rfl rfl rfl (by omega) (xcl_0) (Nat.le_of_ble_eq_true rfl) hn hS dX6_init_12 (fun H locs hn hS => ?_)
  have hn : nAt D b 24 (xcl cs b [.ref (sq b 1), .null, .null, .null, .null, .null] 0) H := by
    refine nAt_cong hn (fun i h0 h1 => ?_)
    by_cases q : i = 0
    · subst q; rfl
    · rw [upE_n q]; exact xcl_e (Or.inl q) (Or.inr rfl)
  refine lv_aload_n hx hb dX6_init_15 rfl (lv_at hl 0 rfl) ?_
  refine n_new (C := RX4) (T := TX4) (N := 13) (ci := 3) S (by decide +kernel) tyX4 tyX4_ok (hts (.classLink RX6 16 RX4) (by decide +kernel)) (hts (.instantiable RX4 13) (by decide +kernel)) (hts (.initialized RX4) (by decide +kernel)) hK rfl nwM hn hS (Nat.le_of_ble_eq_true rfl) (Nat.le_of_ble_eq_true rfl) dX6_init_16 (fun H hn hS => ?_)
  refine lv_dup hx hb dX6_init_19 rfl ?_
  have hP : tAt D (sq b 24) (fun _ => 0) H := by
    have q := nAt_at hn (i := 24) (by omega) (by omega)
    rw [upE_s] at q
    exact q
  have hzs := hn.1
  refine x_callI0 (As := []) (rest := [.ref (sq b 24), .ref b]) S hK (c_X4_init l D cs (sq b 24) (fun _ => 0)) (cwI 0 hts gX6_init_X4_init rfl rfl rfl (hts (.initialized RX4) (by decide +kernel)) (hts (.methodLink RX6 18 yX4_init) (by decide +kernel)) (hts (.instanceMethod yX4_init) (by decide +kernel)) rfl (by decide +kernel) ⟨(Nat.le_of_ble_eq_true rfl), (Nat.le_of_ble_eq_true rfl)⟩) hP rfl hl.1 (Nat.le_of_ble_eq_true rfl) dX6_init_20 ⟨(Nat.le_of_ble_eq_true rfl), (Nat.le_of_ble_eq_true rfl)⟩ hS (fun q hq => by rw [hq]; exact nA_sq b _) (fun H locs hB hF hS => ?_)
  refine w_sized (fun hsz => ?_)
  have hn := nAt_back hn hF (fun q hq => hq) (by omega) (by omega) hB (by omega)
  have hn : nAt D b 25 (xcl cs b [.ref (sq b 1), .null, .null, .null, .null, .null] 0) H := nAt_cong hn (fun i h0 h1 => by
    by_cases q : i = 24
    · subst q; rw [upE_s]; rfl
    · rw [upE_n q, upE_n q])
  refine n_putF (C := RX6) (T := TX6) (N := 6) (ci := 5) (i := 0) S hin6 tyX6 tyX6_ok nmX6 hK rfl 1 (by decide) (hts (.fieldLink RX6 19 "EnergyDiscs" "probe" "LEnergyDiscs$Meter;") (by decide +kernel)) rfl hnm rfl rfl rfl (by omega) (xcl_0) (Nat.le_of_ble_eq_true rfl) hn hS dX6_init_23 (fun H locs hn hS => ?_)
  have hn : nAt D b 25 (xcl cs b [.ref (sq b 1), .ref (sq b 24), .null, .null, .null, .null] 0) H := by
    refine nAt_cong hn (fun i h0 h1 => ?_)
    by_cases q : i = 0
    · subst q; rfl
    · rw [upE_n q]; exact xcl_e (Or.inl q) (Or.inr rfl)
  refine lv_aload_n hx hb dX6_init_26 rfl (lv_at hl 0 rfl) ?_
  refine n_new (C := RX5) (T := TX5) (N := 2) (ci := 4) S (by decide +kernel) tyX5 tyX5_ok (hts (.classLink RX6 23 RX5) (by decide +kernel)) (hts (.instantiable RX5 2) (by decide +kernel)) (hts (.initialized RX5) (by decide +kernel)) hK rfl nwP hn hS (Nat.le_of_ble_eq_true rfl) (Nat.le_of_ble_eq_true rfl) dX6_init_27 (fun H hn hS => ?_)
  refine lv_dup hx hb dX6_init_30 rfl ?_
  have hP := nAt_last hn (by omega)
  refine x_callI (As := []) (rest := [.ref (sq b 25), .ref b]) S hK (kZ.keptS hZ hS hAN) hO (c_X5_init l D cs (sq b 25) N (hqb _)) (cwI 0 hts gX6_init_X5_init rfl rfl rfl (hts (.initialized RX5) (by decide +kernel)) (hts (.methodLink RX6 25 yX5_init) (by decide +kernel)) (hts (.instanceMethod yX5_init) (by decide +kernel)) rfl (by decide +kernel) ⟨(Nat.le_of_ble_eq_true rfl), (Nat.le_of_ble_eq_true rfl)⟩) hP rfl hl.1 (Nat.le_of_ble_eq_true rfl) dX6_init_31 ⟨(Nat.le_of_ble_eq_true rfl), (Nat.le_of_ble_eq_true rfl)⟩ hS (fun q hq => Nat.le_trans (Nat.le_add_right _ _) hq) (fun H locs hB hF hS => ?_)
  have hn := nAt_join (m := 25) (k := 2) (cell3 := xcl cs b [.ref (sq b 1), .ref (sq b 24), .null, .null, .null, .null] 0) hn (by omega) hF hB (fun i h0 h1 => (upE_n (by omega)).symm) (fun i h0 h1 => xcl_p h0 h1)
  refine n_putF (C := RX6) (T := TX6) (N := 6) (ci := 5) (i := 0) S hin6 tyX6 tyX6_ok nmX6 hK rfl 2 (by decide) (hts (.fieldLink RX6 26 "EnergyDiscs" "pad" "LEnergyDiscs$Pad;") (by decide +kernel)) rfl hnm rfl rfl rfl (by omega) (xcl_0) (Nat.le_of_ble_eq_true rfl) hn hS dX6_init_34 (fun H locs hn hS => ?_)
  have hn : nAt D b 27 (xcl cs b [.ref (sq b 1), .ref (sq b 24), .ref (sq b 25), .null, .null, .null] 0) H := by
    refine nAt_cong hn (fun i h0 h1 => ?_)
    by_cases q : i = 0
    · subst q; rfl
    · rw [upE_n q]; exact xcl_e (Or.inl q) (Or.inr rfl)
  refine lv_aload_n hx hb dX6_init_37 rfl (lv_at hl 0 rfl) ?_
  refine n_new (C := RX1) (T := TX1) (N := 3) (ci := 0) S (by decide +kernel) tyX1 tyX1_ok (hts (.classLink RX6 30 RX1) (by decide +kernel)) (hts (.instantiable RX1 3) (by decide +kernel)) (hts (.initialized RX1) (by decide +kernel)) hK rfl nwY hn hS (Nat.le_of_ble_eq_true rfl) (Nat.le_of_ble_eq_true rfl) dX6_init_38 (fun H hn hS => ?_)
  refine lv_dup hx hb dX6_init_41 rfl ?_
  have hP := nAt_last hn (by omega)
  refine x_callI (As := []) (rest := [.ref (sq b 27), .ref b]) S hK (kZ.keptS hZ hS hAN) hO (c_X1_init l D cs (sq b 27) N (hqb _)) (cwI 0 hts gX6_init_X1_init rfl rfl rfl (hts (.initialized RX1) (by decide +kernel)) (hts (.methodLink RX6 32 yX1_init) (by decide +kernel)) (hts (.instanceMethod yX1_init) (by decide +kernel)) rfl (by decide +kernel) ⟨(Nat.le_of_ble_eq_true rfl), (Nat.le_of_ble_eq_true rfl)⟩) hP rfl hl.1 (Nat.le_of_ble_eq_true rfl) dX6_init_42 ⟨(Nat.le_of_ble_eq_true rfl), (Nat.le_of_ble_eq_true rfl)⟩ hS (fun q hq => Nat.le_trans (Nat.le_add_right _ _) hq) (fun H locs hB hF hS => ?_)
  have hn := nAt_join (m := 27) (k := 163) (cell3 := xcl cs b [.ref (sq b 1), .ref (sq b 24), .ref (sq b 25), .null, .null, .null] 0) hn (by omega) hF hB (fun i h0 h1 => (upE_n (by omega)).symm) (fun i h0 h1 => xcl_y h0 h1)
  refine n_putF (C := RX6) (T := TX6) (N := 6) (ci := 5) (i := 0) S hin6 tyX6 tyX6_ok nmX6 hK rfl 3 (by decide) (hts (.fieldLink RX6 33 "EnergyDiscs" "history" "LEnergyDiscs$History;") (by decide +kernel)) rfl hnm rfl rfl rfl (by omega) (xcl_0) (Nat.le_of_ble_eq_true rfl) hn hS dX6_init_45 (fun H locs hn hS => ?_)
  have hn : nAt D b 190 (xcl cs b [.ref (sq b 1), .ref (sq b 24), .ref (sq b 25), .ref (sq b 27), .null, .null] 0) H := by
    refine nAt_cong hn (fun i h0 h1 => ?_)
    by_cases q : i = 0
    · subst q; rfl
    · rw [upE_n q]; exact xcl_e (Or.inl q) (Or.inr rfl)
  refine lv_aload_n hx hb dX6_init_48 rfl (lv_at hl 0 rfl) ?_
  refine x_iconst hx hb dX6_init_49 ?_
  refine n_newQ (N := 2) S 6 rfl (hts (.classLink RX6 7 RX2) (by decide +kernel)) hO.2.2 hK rfl (by decide) hn hS (Nat.le_of_ble_eq_true rfl) (Nat.le_of_ble_eq_true rfl) dX6_init_50 (fun H hn hS => ?_)
  have hn : nAt D b 191 (xcl cs b [.ref (sq b 1), .ref (sq b 24), .ref (sq b 25), .ref (sq b 27), .null, .null] 0) H := nAt_cong (n := 191) hn (fun i h0 h1 => by
    by_cases q : i = 190
    · subst q; rw [upE_s, xcl_q]; exact congrArg (fun f => (.inl (cs 6, (2, .inr (.inr (.inr (.inr f))))) : va_E)) fq0
    · rw [upE_n q])
  refine n_putF (C := RX6) (T := TX6) (N := 6) (ci := 5) (i := 0) S hin6 tyX6 tyX6_ok nmX6 hK rfl 4 (by decide) (hts (.fieldLink RX6 37 "EnergyDiscs" "slots" "[LEnergyDiscs$House;") (by decide +kernel)) rfl hnm rfl rfl rfl (by omega) (xcl_0) (Nat.le_of_ble_eq_true rfl) hn hS dX6_init_53 (fun H locs hn hS => ?_)
  have hn : nAt D b 191 (xcl cs b [.ref (sq b 1), .ref (sq b 24), .ref (sq b 25), .ref (sq b 27), .ref (sq b 190), .null] 0) H := by
    refine nAt_cong hn (fun i h0 h1 => ?_)
    by_cases q : i = 0
    · subst q; rfl
    · rw [upE_n q]; exact xcl_e (Or.inl q) (Or.inr rfl)
  refine lv_aload_n hx hb dX6_init_56 rfl (lv_at hl 0 rfl) ?_
  refine x_iconst hx hb dX6_init_57 ?_
  refine n_newZ (N := 2) S (hts (.arrayClass .boolean) (by decide +kernel)) hK rfl (by decide) hn hS (Nat.le_of_ble_eq_true rfl) (Nat.le_of_ble_eq_true rfl) dX6_init_58 (fun H hn hS => ?_)
  have hn : nAt D b 192 (xcl cs b [.ref (sq b 1), .ref (sq b 24), .ref (sq b 25), .ref (sq b 27), .ref (sq b 190), .null] 0) H := nAt_cong (n := 192) hn (fun i h0 h1 => by
    by_cases q : i = 191
    · subst q; rw [upE_s]; rfl
    · rw [upE_n q])
  refine n_putF (C := RX6) (T := TX6) (N := 6) (ci := 5) (i := 0) S hin6 tyX6 tyX6_ok nmX6 hK rfl 5 (by decide) (hts (.fieldLink RX6 41 "EnergyDiscs" "slotsUsed" "[Z") (by decide +kernel)) rfl hnm rfl rfl rfl (by omega) (xcl_0) (Nat.le_of_ble_eq_true rfl) hn hS dX6_init_60 (fun H locs hn hS => ?_)
  have hn : nAt D b (192 + 23 * ((0 : Nat) : Int)) (xcl cs b (edF b) ((0 : Nat) : Int)) H := by
    refine nAt_cong (n := 192) hn (fun i h0 h1 => ?_)
    by_cases q : i = 0
    · subst q; rfl
    · rw [upE_n q]; exact xcl_e (Or.inl q) (Or.inr rfl)
  refine x_iconst hx hb dX6_init_63 ?_
  refine lv_istore_n (lv' := [(1, .int (zI 0)), (0, .ref b)]) hx hb dX6_init_64 rfl hl (by decide) rfl (fun ls hl => ?_)
  exact lp65 2 0 rfl H locs hn hS ls hl
