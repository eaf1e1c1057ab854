set_option maxHeartbeats 4000000 in
set_option maxRecDepth 100000 in
theorem c_X5_init (l : Launch) (D : va_G) (cs : Nat → ClassId) (b : Nat) (N : Nat) (hN : N ≤ b) : kI D cs N l yX5_init wsX5_init ({ frames := 1, cells := 1, slots := 80, locals := 12 } : Room) [.ref b] (fun H => nAt D b 1 (fun _ => .inr (4, pdD)) H) (fun H => nAt D b 2 (pcell cs (sq b) (fun _ => 0) 0) H) (nA b) 1 80 := by
  refine Met.ofW (cc := cX5_init) (maxL := 1) (ret := none) (by decide) rfl ?_
  intro p e s m args below meth c s₁ B hml hv
  obtain ⟨rfl, hK, hZ, hO, hn⟩ := hv
  have hx := B.exec
  have hb := B.bytes
  have hr := B.returns
  have hnm : meth.name = "<init>" := (name_of_methodNamed B.named B.method).1
  have hts := atoms_spec (ws := wsX5_init) B.pre
  have hown : s.vm.findClass RX5 = some m.cls := findClass_of_methodNamed B.named
  have hlocks := B.notSynchronized
  have S : CallFix p m c cX5_init 1 s (([.ref b] : List Value)).toArray wsX5_init RX5 := ⟨hx, hb, hml, hown, hts⟩
  have hS : va_S (nA b) s.heap s.heap [] := va_S.rf
  have hz0 : (s.heap.size : Int) = b + 1 := hn.1
  have hl := lv_entry ([.ref b]) (n := 1) (Nat.le_of_ble_eq_true rfl)
  rw [lg_entry_eq]
  generalize (lg_sl ([.ref b]) ++ List.replicate (1 - (lg_sl ([.ref b])).length) Slot.unset).toArray = ls at hl ⊢
  have hl : lv_has ls 1 [(0, .ref b)] := hl
  have hin5 : ∀ w ∈ wsX50, w ∈ wsX5_init := by decide +kernel
  refine lv_aload_n hx hb dX5_init_0 rfl (lv_at hl 0 rfl) ?_
  refine W.objInit hx hb S.2.2.2.1 (hts (.methodLink RX5 3 objectInit) (by decide +kernel)) (hts (.instanceMethod objectInit) (by decide +kernel)) (hts (.code objectInit ⟨#[0xb1]⟩ 1 none) (by decide +kernel)) rfl (by rw [S.2.2.1]; exact hl.1) rfl dX5_init_1 (Nat.le_of_ble_eq_true rfl) (Nat.le_of_ble_eq_true rfl) ?_
  refine lv_aload_n hx hb dX5_init_4 rfl (lv_at hl 0 rfl) ?_
  refine x_bipush hx hb dX5_init_5 (by decide +kernel) ?_
  refine n_newC (N := 80) S (hts (.arrayClass .char) (by decide +kernel)) hK rfl (by decide) hn hS (Nat.le_of_ble_eq_true rfl) (Nat.le_of_ble_eq_true rfl) dX5_init_7 (fun H hn hS => ?_)
  refine n_putF (C := RX5) (T := TX5) (N := 2) (ci := 4) (i := 0) S hin5 tyX5 tyX5_ok nmX5 hK rfl 0 (by decide) (hts (.fieldLink RX5 9 "EnergyDiscs$Pad" "signs" "[C") (by decide +kernel)) rfl hnm rfl rfl rfl (by omega) ((upE_n (by omega))) (Nat.le_of_ble_eq_true rfl) hn hS dX5_init_9 (fun H locs hn hS => ?_)
  refine lv_aload_n hx hb dX5_init_12 rfl (lv_at hl 0 rfl) ?_
  refine x_iconst hx hb dX5_init_13 ?_
  refine n_put (C := RX5) (T := TX5) (N := 2) (ci := 4) (i := 0) S hin5 tyX5 tyX5_ok nmX5 hK rfl 1 (by decide) (hts (.fieldLink RX5 15 "EnergyDiscs$Pad" "length" "I") (by decide +kernel)) rfl rfl rfl (by omega) (upE_s _ _ _) (Nat.le_of_ble_eq_true rfl) hn hS dX5_init_14 (fun H locs hn hS => ?_)
  refine x_vretI (mc := 1) (ms := 80) hx hb hr hlocks (nAt_cong hn (fun i h0 h1 => ?_)) hS (Nat.le_refl _) (Nat.le_refl _) dX5_init_17
  rcases (show i = 0 ∨ i = 1 by omega) with h | h <;> subst h
  · rfl
  · rfl
def sM0 : Int → Int := up (up (up (up (up (up (fun _ => 0) 0 15) 1 2) 2 1) 3 1000) 4 9) 5 5
theorem mcell_s {cs : Nat → ClassId} {a : Int → Nat} {σ σ2 pa sl sv pd : Int → Int} {kn ln i : Int} (h : i ≠ 1) : mcell cs a σ pa sl sv pd kn ln i = mcell cs a σ2 pa sl sv pd kn ln i := by
  unfold mcell
  by_cases q0 : i = 0
  · rw [if_pos q0, if_pos q0]
  · rw [if_neg q0, if_neg q0, if_neg h, if_neg h]
set_option maxHeartbeats 4000000 in
set_option maxRecDepth 100000 in
theorem c_X7_init (l : Launch) (D : va_G) (cs : Nat → ClassId) (b : Nat) (N : Nat) (hN : N ≤ b) : kI D cs N l yX7_init wsX7_init ({ frames := 1, cells := 5, slots := 1462, locals := 12 } : Room) [.ref b] (fun H => nAt D b 1 (fun _ => .inr (6, moD)) H) (fun H => nAt D b 6 (mcell cs (sq b) sM0 (fun _ => 0) (fun _ => 0) (fun _ => 0) (fun _ => 0) 0 0) H) (nA b) 5 1462 := by
  refine Met.ofW (cc := cX7_init) (maxL := 1) (ret := none) (by decide) rfl ?_
  intro p e s m args below meth c s₁ B hml hv
  obtain ⟨rfl, hK, hZ, hO, hn⟩ := hv
  have hx := B.exec
  have hb := B.bytes
  have hr := B.returns
  have hnm : meth.name = "<init>" := (name_of_methodNamed B.named B.method).1
  have hts := atoms_spec (ws := wsX7_init) B.pre
  have hown : s.vm.findClass RX7 = some m.cls := findClass_of_methodNamed B.named
  have hlocks := B.notSynchronized
  have S : CallFix p m c cX7_init 1 s (([.ref b] : List Value)).toArray wsX7_init RX7 := ⟨hx, hb, hml, hown, hts⟩
  have hS : va_S (nA b) s.heap s.heap [] := va_S.rf
  have hz0 : (s.heap.size : Int) = b + 1 := hn.1
  have hl := lv_entry ([.ref b]) (n := 1) (Nat.le_of_ble_eq_true rfl)
  rw [lg_entry_eq]
  generalize (lg_sl ([.ref b]) ++ List.replicate (1 - (lg_sl ([.ref b])).length) Slot.unset).toArray = ls at hl ⊢
  have hl : lv_has ls 1 [(0, .ref b)] := hl
  have hin7 : ∀ w ∈ wsX70, w ∈ wsX7_init := by decide +kernel
  refine lv_aload_n hx hb dX7_init_0 rfl (lv_at hl 0 rfl) ?_
  refine W.objInit hx hb S.2.2.2.1 (hts (.methodLink RX7 1 objectInit) (by decide +kernel)) (hts (.instanceMethod objectInit) (by decide +kernel)) (hts (.code objectInit ⟨#[0xb1]⟩ 1 none) (by decide +kernel)) rfl (by rw [S.2.2.1]; exact hl.1) rfl dX7_init_1 (Nat.le_of_ble_eq_true rfl) (Nat.le_of_ble_eq_true rfl) ?_
  refine lv_aload_n hx hb dX7_init_4 rfl (lv_at hl 0 rfl) ?_
  refine x_sipush hx hb dX7_init_5 (by decide +kernel) ?_
  refine n_newL (N := 276) S (hts (.arrayClass .long) (by decide +kernel)) hK rfl (by decide) hn hS (Nat.le_of_ble_eq_true rfl) (Nat.le_of_ble_eq_true rfl) dX7_init_8 (fun H hn hS => ?_)
  refine n_putF (C := RX7) (T := TX7) (N := 7) (ci := 6) (i := 0) S hin7 tyX7 tyX7_ok nmX7 hK rfl 0 (by decide) (hts (.fieldLink RX7 7 "EnergyDiscsModel" "s" "[J") (by decide +kernel)) rfl hnm rfl rfl rfl (by omega) ((upE_n (by omega))) (Nat.le_of_ble_eq_true rfl) hn hS dX7_init_10 (fun H locs hn hS => ?_)
  refine lv_aload_n hx hb dX7_init_13 rfl (lv_at hl 0 rfl) ?_
  refine x_sipush hx hb dX7_init_14 (by decide +kernel) ?_
  refine n_newL (N := 828) S (hts (.arrayClass .long) (by decide +kernel)) hK rfl (by decide) hn hS (Nat.le_of_ble_eq_true rfl) (Nat.le_of_ble_eq_true rfl) dX7_init_17 (fun H hn hS => ?_)
  refine n_putF (C := RX7) (T := TX7) (N := 7) (ci := 6) (i := 0) S hin7 tyX7 tyX7_ok nmX7 hK rfl 1 (by decide) (hts (.fieldLink RX7 13 "EnergyDiscsModel" "past" "[J") (by decide +kernel)) rfl hnm rfl rfl rfl (by omega) ((upE_n (by omega)).trans (upE_s _ _ _)) (Nat.le_of_ble_eq_true rfl) hn hS dX7_init_19 (fun H locs hn hS => ?_)
  refine lv_aload_n hx hb dX7_init_22 rfl (lv_at hl 0 rfl) ?_
  refine x_sipush hx hb dX7_init_23 (by decide +kernel) ?_
  refine n_newL (N := 276) S (hts (.arrayClass .long) (by decide +kernel)) hK rfl (by decide) hn hS (Nat.le_of_ble_eq_true rfl) (Nat.le_of_ble_eq_true rfl) dX7_init_26 (fun H hn hS => ?_)
  refine n_putF (C := RX7) (T := TX7) (N := 7) (ci := 6) (i := 0) S hin7 tyX7 tyX7_ok nmX7 hK rfl 3 (by decide) (hts (.fieldLink RX7 16 "EnergyDiscsModel" "slots" "[J") (by decide +kernel)) rfl hnm rfl rfl rfl (by omega) ((upE_n (by omega)).trans (upE_s _ _ _)) (Nat.le_of_ble_eq_true rfl) hn hS dX7_init_28 (fun H locs hn hS => ?_)
  refine lv_aload_n hx hb dX7_init_31 rfl (lv_at hl 0 rfl) ?_
  refine x_iconst hx hb dX7_init_32 ?_
  refine n_newZ (N := 2) S (hts (.arrayClass .boolean) (by decide +kernel)) hK rfl (by decide) hn hS (Nat.le_of_ble_eq_true rfl) (Nat.le_of_ble_eq_true rfl) dX7_init_33 (fun H hn hS => ?_)
  refine n_putF (C := RX7) (T := TX7) (N := 7) (ci := 6) (i := 0) S hin7 tyX7 tyX7_ok nmX7 hK rfl 4 (by decide) (hts (.fieldLink RX7 19 "EnergyDiscsModel" "isSaved" "[Z") (by decide +kernel)) rfl hnm rfl rfl rfl (by omega) ((upE_n (by omega)).trans (upE_s _ _ _)) (Nat.le_of_ble_eq_true rfl) hn hS dX7_init_35 (fun H locs hn hS => ?_)
  refine lv_aload_n hx hb dX7_init_38 rfl (lv_at hl 0 rfl) ?_
  refine x_bipush hx hb dX7_init_39 (by decide +kernel) ?_
  refine n_newI (N := 80) S (hts (.arrayClass .int) (by decide +kernel)) hK rfl (by decide) hn hS (Nat.le_of_ble_eq_true rfl) (Nat.le_of_ble_eq_true rfl) dX7_init_41 (fun H hn hS => ?_)
  refine n_putF (C := RX7) (T := TX7) (N := 7) (ci := 6) (i := 0) S hin7 tyX7 tyX7_ok nmX7 hK rfl 5 (by decide) (hts (.fieldLink RX7 23 "EnergyDiscsModel" "pad" "[I") (by decide +kernel)) rfl hnm rfl rfl rfl (by omega) ((upE_n (by omega)).trans (upE_s _ _ _)) (Nat.le_of_ble_eq_true rfl) hn hS dX7_init_43 (fun H locs hn hS => ?_)
  have hn : nAt D b 6 (mcell cs (sq b) (fun _ => 0) (fun _ => 0) (fun _ => 0) (fun _ => 0) (fun _ => 0) 0 0) H := by
    refine nAt_cong hn (fun i h0 h1 => ?_)
    rcases (show i = 0 ∨ i = 1 ∨ i = 2 ∨ i = 3 ∨ i = 4 ∨ i = 5 by omega) with h | h | h | h | h | h <;> subst h <;> rfl
  refine lv_aload_n hx hb dX7_init_46 rfl (lv_at hl 0 rfl) ?_
  refine n_get (C := RX7) (T := TX7) (N := 7) (ci := 6) (i := 0) S hin7 hK rfl 0 (by decide) (hts (.fieldLink RX7 7 "EnergyDiscsModel" "s" "[J") (by decide +kernel)) (by omega) rfl rfl hn dX7_init_47 ?_
  refine x_iconst hx hb dX7_init_50 ?_
  refine x_ldc2 (v := 15) hx hb hown (hts (.constantLong RX7 27 (15)) (by decide +kernel)) dX7_init_51 ?_
  refine n_last (i := 1) (t := 0) (v := 15) S hK (by omega) rfl (by omega) (by omega) hn hS dX7_init_54 (fun H locs hn hS => ?_)
  have hn : nAt D b 6 (mcell cs (sq b) (up (fun _ => 0) 0 15) (fun _ => 0) (fun _ => 0) (fun _ => 0) (fun _ => 0) 0 0) H := by
    refine nAt_cong hn (fun i h0 h1 => ?_)
    by_cases q : i = 1
    · subst q
      rw [upE_s]
      exact congrArg (fun f => (.inl (cs 1, (276, .inr (.inl f))) : va_E)) (updL_u (fun _ => 0) 0 15 (by decide)).symm
    · rw [upE_n q]; exact mcell_s q
  refine lv_aload_n hx hb dX7_init_55 rfl (lv_at hl 0 rfl) ?_
  refine n_get (C := RX7) (T := TX7) (N := 7) (ci := 6) (i := 0) S hin7 hK rfl 0 (by decide) (hts (.fieldLink RX7 7 "EnergyDiscsModel" "s" "[J") (by decide +kernel)) (by omega) rfl rfl hn dX7_init_56 ?_
  refine x_iconst hx hb dX7_init_59 ?_
  refine x_ldc2 (v := 2) hx hb hown (hts (.constantLong RX7 29 (2)) (by decide +kernel)) dX7_init_60 ?_
  refine n_last (i := 1) (t := 1) (v := 2) S hK (by omega) rfl (by omega) (by omega) hn hS dX7_init_63 (fun H locs hn hS => ?_)
  have hn : nAt D b 6 (mcell cs (sq b) (up (up (fun _ => 0) 0 15) 1 2) (fun _ => 0) (fun _ => 0) (fun _ => 0) (fun _ => 0) 0 0) H := by
    refine nAt_cong hn (fun i h0 h1 => ?_)
    by_cases q : i = 1
    · subst q
      rw [upE_s]
      exact congrArg (fun f => (.inl (cs 1, (276, .inr (.inl f))) : va_E)) (updL_u (up (fun _ => 0) 0 15) 1 2 (by decide)).symm
    · rw [upE_n q]; exact mcell_s q
  refine lv_aload_n hx hb dX7_init_64 rfl (lv_at hl 0 rfl) ?_
  refine n_get (C := RX7) (T := TX7) (N := 7) (ci := 6) (i := 0) S hin7 hK rfl 0 (by decide) (hts (.fieldLink RX7 7 "EnergyDiscsModel" "s" "[J") (by decide +kernel)) (by omega) rfl rfl hn dX7_init_65 ?_
  refine x_iconst hx hb dX7_init_68 ?_
  refine x_lconst (v := 1) hx hb dX7_init_69 rfl ?_
  refine n_last (i := 1) (t := 2) (v := 1) S hK (by omega) rfl (by omega) (by omega) hn hS dX7_init_70 (fun H locs hn hS => ?_)
  have hn : nAt D b 6 (mcell cs (sq b) (up (up (up (fun _ => 0) 0 15) 1 2) 2 1) (fun _ => 0) (fun _ => 0) (fun _ => 0) (fun _ => 0) 0 0) H := by
    refine nAt_cong hn (fun i h0 h1 => ?_)
    by_cases q : i = 1
    · subst q
      rw [upE_s]
      exact congrArg (fun f => (.inl (cs 1, (276, .inr (.inl f))) : va_E)) (updL_u (up (up (fun _ => 0) 0 15) 1 2) 2 1 (by decide)).symm
    · rw [upE_n q]; exact mcell_s q
  refine lv_aload_n hx hb dX7_init_71 rfl (lv_at hl 0 rfl) ?_
  refine n_get (C := RX7) (T := TX7) (N := 7) (ci := 6) (i := 0) S hin7 hK rfl 0 (by decide) (hts (.fieldLink RX7 7 "EnergyDiscsModel" "s" "[J") (by decide +kernel)) (by omega) rfl rfl hn dX7_init_72 ?_
  refine x_iconst hx hb dX7_init_75 ?_
  refine x_ldc2 (v := 1000) hx hb hown (hts (.constantLong RX7 31 (1000)) (by decide +kernel)) dX7_init_76 ?_
  refine n_last (i := 1) (t := 3) (v := 1000) S hK (by omega) rfl (by omega) (by omega) hn hS dX7_init_79 (fun H locs hn hS => ?_)
  have hn : nAt D b 6 (mcell cs (sq b) (up (up (up (up (fun _ => 0) 0 15) 1 2) 2 1) 3 1000) (fun _ => 0) (fun _ => 0) (fun _ => 0) (fun _ => 0) 0 0) H := by
    refine nAt_cong hn (fun i h0 h1 => ?_)
    by_cases q : i = 1
    · subst q
      rw [upE_s]
      exact congrArg (fun f => (.inl (cs 1, (276, .inr (.inl f))) : va_E)) (updL_u (up (up (up (fun _ => 0) 0 15) 1 2) 2 1) 3 1000 (by decide)).symm
    · rw [upE_n q]; exact mcell_s q
  refine lv_aload_n hx hb dX7_init_80 rfl (lv_at hl 0 rfl) ?_
  refine n_get (C := RX7) (T := TX7) (N := 7) (ci := 6) (i := 0) S hin7 hK rfl 0 (by decide) (hts (.fieldLink RX7 7 "EnergyDiscsModel" "s" "[J") (by decide +kernel)) (by omega) rfl rfl hn dX7_init_81 ?_
  refine x_iconst hx hb dX7_init_84 ?_
  refine x_ldc2 (v := 9) hx hb hown (hts (.constantLong RX7 33 (9)) (by decide +kernel)) dX7_init_85 ?_
  refine n_last (i := 1) (t := 4) (v := 9) S hK (by omega) rfl (by omega) (by omega) hn hS dX7_init_88 (fun H locs hn hS => ?_)
  have hn : nAt D b 6 (mcell cs (sq b) (up (up (up (up (up (fun _ => 0) 0 15) 1 2) 2 1) 3 1000) 4 9) (fun _ => 0) (fun _ => 0) (fun _ => 0) (fun _ => 0) 0 0) H := by
    refine nAt_cong hn (fun i h0 h1 => ?_)
    by_cases q : i = 1
    · subst q
      rw [upE_s]
      exact congrArg (fun f => (.inl (cs 1, (276, .inr (.inl f))) : va_E)) (updL_u (up (up (up (up (fun _ => 0) 0 15) 1 2) 2 1) 3 1000) 4 9 (by decide)).symm
    · rw [upE_n q]; exact mcell_s q
  refine lv_aload_n hx hb dX7_init_89 rfl (lv_at hl 0 rfl) ?_
  refine n_get (C := RX7) (T := TX7) (N := 7) (ci := 6) (i := 0) S hin7 hK rfl 0 (by decide) (hts (.fieldLink RX7 7 "EnergyDiscsModel" "s" "[J") (by decide +kernel)) (by omega) rfl rfl hn dX7_init_90 ?_
  refine x_iconst hx hb dX7_init_93 ?_
  refine x_ldc2 (v := 5) hx hb hown (hts (.constantLong RX7 35 (5)) (by decide +kernel)) dX7_init_94 ?_
  refine n_last (i := 1) (t := 5) (v := 5) S hK (by omega) rfl (by omega) (by omega) hn hS dX7_init_97 (fun H locs hn hS => ?_)
  have hn : nAt D b 6 (mcell cs (sq b) (up (up (up (up (up (up (fun _ => 0) 0 15) 1 2) 2 1) 3 1000) 4 9) 5 5) (fun _ => 0) (fun _ => 0) (fun _ => 0) (fun _ => 0) 0 0) H := by
    refine nAt_cong hn (fun i h0 h1 => ?_)
    by_cases q : i = 1
    · subst q
      rw [upE_s]
      exact congrArg (fun f => (.inl (cs 1, (276, .inr (.inl f))) : va_E)) (updL_u (up (up (up (up (up (fun _ => 0) 0 15) 1 2) 2 1) 3 1000) 4 9) 5 5 (by decide)).symm
    · rw [upE_n q]; exact mcell_s q
  exact x_vretI (mc := 5) (ms := 1462) hx hb hr hlocks hn hS (Nat.le_refl _) (Nat.le_refl _) dX7_init_98
