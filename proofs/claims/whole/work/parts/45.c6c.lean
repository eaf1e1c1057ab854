set_option maxHeartbeats 4000000 in
set_option maxRecDepth 100000 in
theorem c_X6_carryOut_bad (l : Launch) (D : va_G) (cs : Nat → ClassId) (a : Int → Nat) (τ : Int → Int) (ss : Int → Int → Int) (hh : Int → Int → Int) (pr : Int → Int) (pd : Int → Int) (ln : Int) (fr : Int) (kp : Int) (su : Int → Int) (hpd : pOK pd ln) (hn : ¬ flt pd ln 80 0 = -6) : kR D cs l yX6_carryOut wsX6_carryOut ({ frames := 6, cells := 0, slots := 0, locals := 143 } : Room) [.ref (a 0)] (fun H => eAt D cs a τ ss hh pr pd ln fr kp su H) (some (.int (zI (-3)))) := by
  refine Met.ofW (cc := cX6_carryOut) (maxL := 4) (ret := (some .int)) (by decide) rfl ?_
  intro p e s m args below meth c s₁ B hml hv
  obtain ⟨rfl, hK, hE⟩ := hv
  have hx := B.exec
  have hb := B.bytes
  have hr := B.returns
  have hts := atoms_spec (ws := wsX6_carryOut) B.pre
  have hown : s.vm.findClass RX6 = some m.cls := findClass_of_methodNamed B.named
  have hlocks := B.notSynchronized
  have S : CallFix p m c cX6_carryOut 4 s (([.ref (a 0)] : List Value)).toArray wsX6_carryOut RX6 := ⟨hx, hb, hml, hown, hts⟩
  have hin5 : ∀ w ∈ wsX50, w ∈ wsX6_carryOut := by decide +kernel
  have hin6 : ∀ w ∈ wsX60, w ∈ wsX6_carryOut := by decide +kernel
  have hl := lv_entry ([.ref (a 0)]) (n := 4) (Nat.le_of_ble_eq_true rfl)
  rw [lg_entry_eq]
  generalize (lg_sl ([.ref (a 0)]) ++ List.replicate (4 - (lg_sl ([.ref (a 0)])).length) Slot.unset).toArray = ls at hl ⊢
  have hl : lv_has ls 4 [(0, .ref (a 0))] := hl
  have hl0 := hpd.1
  have hp0 : ∀ i : Int, 0 ≤ i → i < ln → 0 ≤ pd i ∧ pd i < 65536 := fun i a b => by have := hpd.2 i a b; omega
  have hfr0 := flt_rng hpd 80 0 (by decide) hl0.1
  refine lv_aload_n hx hb dX6_carryOut_0 rfl (lv_at hl 0 rfl) ?_
  refine e_g_pad S hin6 hK hE (hts (.fieldLink RX6 26 "EnergyDiscs" "pad" "LEnergyDiscs$Pad;") (by decide +kernel)) dX6_carryOut_1 ?_
  refine x_callSR (As := [.ref (epd a 0)]) (rest := []) S hK (c_X0_faultOf l D cs (epd a) pd ln (by omega) (by exact hp0)) (va_cwS 1 hts gX6_carryOut_X0_faultOf rfl rfl rfl (by decide +kernel) ⟨(Nat.le_of_ble_eq_true rfl), (Nat.le_of_ble_eq_true rfl)⟩) (eAt_P hE) rfl hl.1 (Nat.le_of_ble_eq_true rfl) dX6_carryOut_4 ⟨Nat.zero_le _, Nat.zero_le _⟩ ?_
  rw [show (fO pd ln ln.toNat 0 1 : Int) = flt pd ln 80 0 from by exact fO_flt hl0]
  refine x_bipush hx hb dX6_carryOut_7 (by decide +kernel) ?_
  refine x_icmp_eq (tgt := 15) hx hb dX6_carryOut_9 (by decide) (by omega) (by omega) (fun c_9 => ?_) (fun c_9 => ?_)
  · exact absurd c_9 hn
  · refine x_bipush hx hb dX6_carryOut_12 (by decide +kernel) ?_
    exact x_iretR hx hb hr hlocks (by first | rfl | omega) rfl dX6_carryOut_14
set_option maxHeartbeats 4000000 in
set_option maxRecDepth 100000 in
theorem c_X6_carryOut_ok (l : Launch) (D : va_G) (cs : Nat → ClassId) (a : Int → Nat) (τ : Int → Int) (ss : Int → Int → Int) (hh : Int → Int → Int) (pr : Int → Int) (pd : Int → Int) (ln : Int) (fr : Int) (kp : Int) (su : Int → Int) (σ : Int → Int) (Nn : Int) (hI : eI a) (hfr : 0 ≤ fr ∧ fr < 7) (hkp : 0 ≤ kp ∧ kp ≤ 6) (hpd : pOK pd ln) (hn : flt pd ln 80 0 = -6) (hM : SM Nn σ τ) (hNn : 0 ≤ Nn ∧ Nn ≤ 1000000) : kM D cs l yX6_carryOut wsX6_carryOut ({ frames := 6, cells := 0, slots := 0, locals := 143 } : Room) [.ref (a 0)] (fun H => eAt D cs a τ ss hh pr pd ln fr kp su H) (some (.int (zI (cocN pd ln 81 τ 0)))) (fun H => eAt D cs a (cocS pd ln 81 τ 0) ss (upH hh fr (cpH (hh fr) τ)) pr pd 0 ((fr + 1) % 7) (min 6 (kp + 1)) su H) (eC a) := by
  refine Met.ofW (cc := cX6_carryOut) (maxL := 4) (ret := (some .int)) (by decide) rfl ?_
  intro p e s m args below meth c s₁ B hml hv
  obtain ⟨rfl, hK, hE⟩ := hv
  have hx := B.exec
  have hb := B.bytes
  have hr := B.returns
  have hts := atoms_spec (ws := wsX6_carryOut) B.pre
  have hown : s.vm.findClass RX6 = some m.cls := findClass_of_methodNamed B.named
  have hlocks := B.notSynchronized
  have S : CallFix p m c cX6_carryOut 4 s (([.ref (a 0)] : List Value)).toArray wsX6_carryOut RX6 := ⟨hx, hb, hml, hown, hts⟩
  have hin5 : ∀ w ∈ wsX50, w ∈ wsX6_carryOut := by decide +kernel
  have hin6 : ∀ w ∈ wsX60, w ∈ wsX6_carryOut := by decide +kernel
  have hS : va_S (eC a) s.heap s.heap [] := va_S.rf
  have hl := lv_entry ([.ref (a 0)]) (n := 4) (Nat.le_of_ble_eq_true rfl)
  rw [lg_entry_eq]
  generalize (lg_sl ([.ref (a 0)]) ++ List.replicate (4 - (lg_sl ([.ref (a 0)])).length) Slot.unset).toArray = ls at hl ⊢
  have hl : lv_has ls 4 [(0, .ref (a 0))] := hl
  have hl0 := hpd.1
  have hp0 : ∀ i : Int, 0 ≤ i → i < ln → 0 ≤ pd i ∧ pd i < 65536 := fun i a b => by have := hpd.2 i a b; omega
  have hfr0 := flt_rng hpd 80 0 (by decide) hl0.1
  have hg := LE_gOK hM.2.2 hM.1.1
  refine lv_aload_n hx hb dX6_carryOut_0 rfl (lv_at hl 0 rfl) ?_
  refine e_g_pad S hin6 hK hE (hts (.fieldLink RX6 26 "EnergyDiscs" "pad" "LEnergyDiscs$Pad;") (by decide +kernel)) dX6_carryOut_1 ?_
  refine x_callSR (As := [.ref (epd a 0)]) (rest := []) S hK (c_X0_faultOf l D cs (epd a) pd ln (by omega) (by exact hp0)) (va_cwS 1 hts gX6_carryOut_X0_faultOf rfl rfl rfl (by decide +kernel) ⟨(Nat.le_of_ble_eq_true rfl), (Nat.le_of_ble_eq_true rfl)⟩) (eAt_P hE) rfl hl.1 (Nat.le_of_ble_eq_true rfl) dX6_carryOut_4 ⟨Nat.zero_le _, Nat.zero_le _⟩ ?_
  rw [show (fO pd ln ln.toNat 0 1 : Int) = flt pd ln 80 0 from by exact fO_flt hl0]
  refine x_bipush hx hb dX6_carryOut_7 (by decide +kernel) ?_
  refine x_icmp_eq (tgt := 15) hx hb dX6_carryOut_9 (by decide) (by omega) (by omega) (fun c_9 => ?_) (fun c_9 => ?_)
  · refine lv_aload_n hx hb dX6_carryOut_15 rfl (lv_at hl 0 rfl) ?_
    refine e_g_history S hin6 hK hE (hts (.fieldLink RX6 33 "EnergyDiscs" "history" "LEnergyDiscs$History;") (by decide +kernel)) dX6_carryOut_16 ?_
    refine lv_aload_n hx hb dX6_carryOut_19 rfl (lv_at hl 0 rfl) ?_
    refine e_g_house S hin6 hK hE (hts (.fieldLink RX6 10 "EnergyDiscs" "house" "LEnergyDiscs$House;") (by decide +kernel)) dX6_carryOut_20 ?_
    refine x_callVMn (As := [.ref (ehs a 0 0)]) (rest := []) S hK (c_X1_prepare l D cs a τ ss hh pr pd ln fr kp su (by exact hI) (by omega) (by exact hg)) (cwV 1 hts gX6_carryOut_X1_prepare rfl rfl rfl (by decide +kernel) ⟨(Nat.le_of_ble_eq_true rfl), (Nat.le_of_ble_eq_true rfl)⟩) (x_rc hK (eAt_4 hE) rfl) hE rfl hl.1 (Nat.le_of_ble_eq_true rfl) dX6_carryOut_23 ⟨Nat.zero_le _, Nat.zero_le _⟩ hS (fun q hq => hq) (fun H locs hB hF hS => ?_)
    have hE : eAt D cs a τ ss (upH hh fr (cpH (hh fr) τ)) pr pd ln fr kp su H := hB
    refine x_iconst hx hb dX6_carryOut_26 ?_
    refine lv_istore_n (lv' := [(1, .int (zI 0)), (0, .ref (a 0))]) hx hb dX6_carryOut_27 rfl hl (by decide) rfl (fun ls hl => ?_)
    refine x_iconst hx hb dX6_carryOut_28 ?_
    refine lv_istore_n (lv' := [(2, .int (zI 0)), (1, .int (zI 0)), (0, .ref (a 0))]) hx hb dX6_carryOut_29 rfl hl (by decide) rfl (fun ls hl => ?_)
    refine x_iconst hx hb dX6_carryOut_30 ?_
    refine lv_istore_n (lv' := [(3, .int (zI 0)), (2, .int (zI 0)), (1, .int (zI 0)), (0, .ref (a 0))]) hx hb dX6_carryOut_31 rfl hl (by decide) rfl (fun ls hl => ?_)
    have lp32 : ∀ (n : Nat) (j : Int) (p0 : Int) (dn : Int) (t0 : Int → Int) (s1 : Int → Int) (f0 : Nat), (ln + 1 - j).toNat < n → (0 ≤ p0 ∧ p0 ≤ j ∧ j ≤ ln + 1) → (SM (Nn + 81 - (f0 : Int)) s1 t0) → (p0 ≤ ln → flt pd ln (f0 - 1) p0 = -6) → (f0 ≤ 81 ∧ ln - p0 < 2 * ((f0 : Int) - 1)) → (p0 ≤ ln → j ≤ ordE pd ln p0) → (cocS pd ln f0 t0 p0 = cocS pd ln 81 τ 0) → (dn + cocN pd ln f0 t0 p0 = cocN pd ln 81 τ 0) → (0 ≤ dn ∧ dn ≤ 81 - (f0 : Int)) → ∀ (H : Heap) (locs : List Loc), eAt D cs a t0 ss (upH hh fr (cpH (hh fr) τ)) pr pd ln fr kp su H → va_S (eC a) s.heap H locs → ∀ (ls : Array Slot), lv_has ls 4 [(3, .int (zI j)), (2, .int (zI p0)), (1, .int (zI dn)), (0, .ref (a 0))] → W p l e (headSpec wsX6_carryOut ({ frames := 6, cells := 0, slots := 0, locals := 143 } : Room)).room s m ([.ref (a 0)] : List Value).toArray below meth c H locs 0 0 (MQ below (kQ (some (.int (zI (cocN pd ln 81 τ 0)))) (fun H => eAt D cs a (cocS pd ln 81 τ 0) ss (upH hh fr (cpH (hh fr) τ)) pr pd 0 ((fr + 1) % 7) (min 6 (kp + 1)) su H) (eC a)) ([.ref (a 0)] : List Value).toArray s 0 0 (eC a)) (F0 m 32 ls []) := by
      intro n
      induction n with
      | zero => intro j p0 dn t0 s1 f0 hms; exact absurd hms (Nat.not_lt_zero _)
      | succ n ih =>
        intro j p0 dn t0 s1 f0 hms i1 i2 i3 i8 i4 i5 i6 i7 H locs hE hS ls hl
        have hord : p0 ≤ ln → 0 ≤ ordE pd ln p0 ∧ (ordE pd ln p0 = ln ∨ (cdS pd ln (ordE pd ln p0) = 59 ∧ flt pd ln (f0 - 2) (ordE pd ln p0 + 1) = -6)) := fun q => by have h1 := i3 q; rw [show f0 - 1 = (f0 - 2) + 1 by omega] at h1; exact flt_ord h1 (by omega)
        have hole : p0 ≤ ln → p0 + 1 ≤ ordE pd ln p0 ∧ ordE pd ln p0 ≤ ln := fun q => ord_le i1.1 (hord q).1
        have hg1 := LE_gOK i2.2.2 i2.1.1
        have ih32 := ih
        clear ih
        refine lv_iload_n hx hb dX6_carryOut_32 rfl (lv_at hl 0 rfl) ?_
        refine lv_aload_n hx hb dX6_carryOut_33 rfl (lv_at hl 3 rfl) ?_
        refine e_g_pad S hin6 hK hE (hts (.fieldLink RX6 26 "EnergyDiscs" "pad" "LEnergyDiscs$Pad;") (by decide +kernel)) dX6_carryOut_34 ?_
        refine p_g_length S hin5 hK (eAt_P hE) (hts (.fieldLink RX6 104 "EnergyDiscs$Pad" "length" "I") (by decide +kernel)) dX6_carryOut_37 ?_
        refine x_icmp_gt (tgt := 95) hx hb dX6_carryOut_40 (by decide) (by omega) (by omega) (fun c_40 => ?_) (fun c_40 => ?_)
        · refine lv_aload_n hx hb dX6_carryOut_95 rfl (lv_at hl 3 rfl) ?_
          refine e_g_pad S hin6 hK hE (hts (.fieldLink RX6 26 "EnergyDiscs" "pad" "LEnergyDiscs$Pad;") (by decide +kernel)) dX6_carryOut_96 ?_
          refine x_callVMn (As := []) (rest := []) S hK (c_X5_clear l D cs (epd a) pd ln (by exact eI_P hI)) (cwV 0 hts gX6_carryOut_X5_clear rfl rfl rfl (by decide +kernel) ⟨(Nat.le_of_ble_eq_true rfl), (Nat.le_of_ble_eq_true rfl)⟩) (x_rc hK (pAt_0 (eAt_P hE)) rfl) (eAt_P hE) rfl hl.1 (Nat.le_of_ble_eq_true rfl) dX6_carryOut_99 ⟨Nat.zero_le _, Nat.zero_le _⟩ hS eC_P (fun H locs hB hF hS => ?_)
          have hE : eAt D cs a t0 ss (upH hh fr (cpH (hh fr) τ)) pr pd 0 fr kp su H := eAt_setP hE hI hB hF
          refine lv_aload_n hx hb dX6_carryOut_102 rfl (lv_at hl 3 rfl) ?_
          refine e_g_history S hin6 hK hE (hts (.fieldLink RX6 33 "EnergyDiscs" "history" "LEnergyDiscs$History;") (by decide +kernel)) dX6_carryOut_103 ?_
          refine lv_iload_n hx hb dX6_carryOut_106 rfl (lv_at hl 2 rfl) ?_
          refine x_callVM (As := [.int (zI dn)]) (rest := []) S hK (c_X1_settle_ok l D cs a t0 ss (upH hh fr (cpH (hh fr) τ)) pr pd 0 fr kp su dn (by omega) (by omega) (by exact hI) (by omega) (by omega)) (cwV 1 hts gX6_carryOut_X1_settle rfl rfl rfl (by decide +kernel) ⟨(Nat.le_of_ble_eq_true rfl), (Nat.le_of_ble_eq_true rfl)⟩) (x_rc hK (eAt_4 hE) rfl) hE rfl hl.1 (Nat.le_of_ble_eq_true rfl) dX6_carryOut_107 ⟨Nat.zero_le _, Nat.zero_le _⟩ hS (fun q hq => hq) (fun H locs hB hF hS => ?_)
          have hE : eAt D cs a t0 ss (upH hh fr (cpH (hh fr) τ)) pr pd 0 ((fr + 1) % 7) (min 6 (kp + 1)) su H := hB
          exact x_iretM hx hb hr hlocks (by rw [← i6]; first | (rw [cocN_stop (fun q => by omega)]; omega) | (rw [cocN_stop (fun q => z_73 q.2)]; omega)) (eAt_cong hE (by rw [← i5]; first | exact (cocS_stop (fun q => by omega)).symm | exact (cocS_stop (fun q => z_73 q.2)).symm) rfl rfl rfl rfl rfl rfl rfl rfl) hS dX6_carryOut_110
        · refine lv_iload_n hx hb dX6_carryOut_43 rfl (lv_at hl 0 rfl) ?_
          refine lv_aload_n hx hb dX6_carryOut_44 rfl (lv_at hl 3 rfl) ?_
          refine e_g_pad S hin6 hK hE (hts (.fieldLink RX6 26 "EnergyDiscs" "pad" "LEnergyDiscs$Pad;") (by decide +kernel)) dX6_carryOut_45 ?_
          refine p_g_length S hin5 hK (eAt_P hE) (hts (.fieldLink RX6 104 "EnergyDiscs$Pad" "length" "I") (by decide +kernel)) dX6_carryOut_48 ?_
          refine x_icmp_ge (tgt := 70) hx hb dX6_carryOut_51 (by decide) (by omega) (by omega) (fun c_51 => ?_) (fun c_51 => ?_)
          · have hole2 := hole (by omega)
            have hje : ordE pd ln p0 = j := by first | omega | (have := ord_in (pd := pd) (ln := ln) i1.1 (hord (by omega)).1 j i1.2.1; have e := cd_in (sg_cd (pd := pd) (ln := ln) c_64 (by decide)) (by decide); by_cases q : j < ordE pd ln p0; (exact absurd e.2 (this q).2); omega)
            refine lv_aload_n hx hb dX6_carryOut_70 rfl (lv_at hl 3 rfl) ?_
            refine lv_iload_n hx hb dX6_carryOut_71 rfl (lv_at hl 1 rfl) ?_
            refine lv_iload_n hx hb dX6_carryOut_72 rfl (lv_at hl 0 rfl) ?_
            by_cases z_73 : whN t0 pd ln p0 = 0
            · have hds := SM_dos i2 i1.1 (by omega) ((LE_whN i2.2.2 pd ln p0).symm.trans z_73) (by omega)
              refine x_callVM (As := [.int (zI p0), .int (zI j)]) (rest := []) S hK (c_X6_carryOneOut_ok l D cs a t0 ss (upH hh fr (cpH (hh fr) τ)) pr pd ln fr kp su p0 j (by exact hI) (by exact hg1) (by omega) (by omega) (by omega) (by exact hp0) (by first | exact z_73 | omega)) (cwV 2 hts gX6_carryOut_X6_carryOneOut rfl rfl rfl (by decide +kernel) ⟨(Nat.le_of_ble_eq_true rfl), (Nat.le_of_ble_eq_true rfl)⟩) (x_rc hK (eAt_0 hE) rfl) hE rfl hl.1 (Nat.le_of_ble_eq_true rfl) dX6_carryOut_73 ⟨Nat.zero_le _, Nat.zero_le _⟩ hS (fun q hq => hq) (fun H locs hB hF hS => ?_)
              have hE : eAt D cs a (dosC t0 pd ln p0) ss (upH hh fr (cpH (hh fr) τ)) pr pd ln fr kp su H := hB
              refine x_if_ge (tgt := 82) hx hb dX6_carryOut_76 (by decide) (by omega) (fun c_76 => ?_) (fun c_76 => ?_)
              · refine x_iinc (x := dn) (lv' := [(1, .int (zI (dn + 1))), (3, .int (zI j)), (2, .int (zI p0)), (0, .ref (a 0))]) hx hb dX6_carryOut_82 hl (k := 2) rfl (by decide) rfl (fun ls hl => ?_)
                refine lv_iload_n hx hb dX6_carryOut_85 rfl (lv_at hl 1 rfl) ?_
                refine x_iconst hx hb dX6_carryOut_86 ?_
                refine x_iadd hx hb dX6_carryOut_87 ?_
                refine lv_istore_n (lv' := [(2, .int (zI (j + 1))), (1, .int (zI (dn + 1))), (3, .int (zI j)), (0, .ref (a 0))]) hx hb dX6_carryOut_88 rfl hl (by decide) rfl (fun ls hl => ?_)
                refine x_iinc (x := j) (lv' := [(3, .int (zI (j + 1))), (2, .int (zI (j + 1))), (1, .int (zI (dn + 1))), (0, .ref (a 0))]) hx hb dX6_carryOut_89 hl (k := 2) rfl (by decide) rfl (fun ls hl => ?_)
                refine lv_goto (tgt := 32) hx hb dX6_carryOut_92 (by decide) ?_
                exact ih32 (j + 1) (j + 1) (dn + 1) (dosC t0 pd ln p0) (dosS s1 pd ln p0) (f0 - 1) (by omega) (by omega) (by first | exact SM_mono hds.1 (by omega) | exact i2) (by first | exact i3 | (intro q; rcases (hord (by omega)).2 with w | w; (exfalso; omega); (rw [← hje, show f0 - 1 - 1 = f0 - 2 by omega]; exact w.2))) (by omega) (by first | (intro q; have w := hord q; have w2 := hole q; by_cases e : j = ordE pd ln p0; (exfalso; rcases w.2 with u | u; (omega); (rw [← e] at u; have := cd_sg u.1 (by decide) (by omega); omega)); omega) | (intro q; rcases (hord (by omega)).2 with w | w; (exfalso; omega); (have w2 := w.2; rw [hje, show f0 - 2 = (f0 - 3) + 1 by omega] at w2; have := (flt_ord w2 (by omega)).1; have := (ordE_rng pd ln (j + 1) (by omega)).2.2 this; omega))) (by first | exact i5 | (rw [← i5]; exact cocS_st (by omega) (by omega) z_73 hje)) (by first | exact i6 | (rw [← i6, ← cocN_st (f := f0) (by omega) (by omega) z_73 hje]; omega)) (by omega) H locs hE hS ls (lv_sub hl [0, 1, 2, 3] rfl)
              · exfalso; omega
            · have hwr := whN_rng t0 pd ln p0
              refine x_callVR (As := [.int (zI p0), .int (zI j)]) (rest := []) S hK (c_X6_carryOneOut_bad l D cs a t0 ss (upH hh fr (cpH (hh fr) τ)) pr pd ln fr kp su p0 j (by exact hg1) (by omega) (by omega) (by omega) (by exact hp0) (by first | exact z_73 | omega)) (cwV 2 hts gX6_carryOut_X6_carryOneOut rfl rfl rfl (by decide +kernel) ⟨(Nat.le_of_ble_eq_true rfl), (Nat.le_of_ble_eq_true rfl)⟩) (x_rc hK (eAt_0 hE) rfl) hE rfl hl.1 (Nat.le_of_ble_eq_true rfl) dX6_carryOut_73 ⟨Nat.zero_le _, Nat.zero_le _⟩ ?_
              refine x_if_ge (tgt := 82) hx hb dX6_carryOut_76 (by decide) (by omega) (fun c_76 => ?_) (fun c_76 => ?_)
              · exfalso; have := whN_rng t0 pd ln p0; omega
              · refine lv_goto (tgt := 95) hx hb dX6_carryOut_79 (by decide) ?_
                refine lv_aload_n hx hb dX6_carryOut_95 rfl (lv_at hl 3 rfl) ?_
                refine e_g_pad S hin6 hK hE (hts (.fieldLink RX6 26 "EnergyDiscs" "pad" "LEnergyDiscs$Pad;") (by decide +kernel)) dX6_carryOut_96 ?_
                refine x_callVMn (As := []) (rest := []) S hK (c_X5_clear l D cs (epd a) pd ln (by exact eI_P hI)) (cwV 0 hts gX6_carryOut_X5_clear rfl rfl rfl (by decide +kernel) ⟨(Nat.le_of_ble_eq_true rfl), (Nat.le_of_ble_eq_true rfl)⟩) (x_rc hK (pAt_0 (eAt_P hE)) rfl) (eAt_P hE) rfl hl.1 (Nat.le_of_ble_eq_true rfl) dX6_carryOut_99 ⟨Nat.zero_le _, Nat.zero_le _⟩ hS eC_P (fun H locs hB hF hS => ?_)
                have hE : eAt D cs a t0 ss (upH hh fr (cpH (hh fr) τ)) pr pd 0 fr kp su H := eAt_setP hE hI hB hF
                refine lv_aload_n hx hb dX6_carryOut_102 rfl (lv_at hl 3 rfl) ?_
                refine e_g_history S hin6 hK hE (hts (.fieldLink RX6 33 "EnergyDiscs" "history" "LEnergyDiscs$History;") (by decide +kernel)) dX6_carryOut_103 ?_
                refine lv_iload_n hx hb dX6_carryOut_106 rfl (lv_at hl 2 rfl) ?_
                refine x_callVM (As := [.int (zI dn)]) (rest := []) S hK (c_X1_settle_ok l D cs a t0 ss (upH hh fr (cpH (hh fr) τ)) pr pd 0 fr kp su dn (by omega) (by omega) (by exact hI) (by omega) (by omega)) (cwV 1 hts gX6_carryOut_X1_settle rfl rfl rfl (by decide +kernel) ⟨(Nat.le_of_ble_eq_true rfl), (Nat.le_of_ble_eq_true rfl)⟩) (x_rc hK (eAt_4 hE) rfl) hE rfl hl.1 (Nat.le_of_ble_eq_true rfl) dX6_carryOut_107 ⟨Nat.zero_le _, Nat.zero_le _⟩ hS (fun q hq => hq) (fun H locs hB hF hS => ?_)
                have hE : eAt D cs a t0 ss (upH hh fr (cpH (hh fr) τ)) pr pd 0 ((fr + 1) % 7) (min 6 (kp + 1)) su H := hB
                exact x_iretM hx hb hr hlocks (by rw [← i6]; first | (rw [cocN_stop (fun q => by omega)]; omega) | (rw [cocN_stop (fun q => z_73 q.2)]; omega)) (eAt_cong hE (by rw [← i5]; first | exact (cocS_stop (fun q => by omega)).symm | exact (cocS_stop (fun q => z_73 q.2)).symm) rfl rfl rfl rfl rfl rfl rfl rfl) hS dX6_carryOut_110
          · refine lv_aload_n hx hb dX6_carryOut_54 rfl (lv_at hl 3 rfl) ?_
            refine e_g_pad S hin6 hK hE (hts (.fieldLink RX6 26 "EnergyDiscs" "pad" "LEnergyDiscs$Pad;") (by decide +kernel)) dX6_carryOut_55 ?_
            refine lv_iload_n hx hb dX6_carryOut_58 rfl (lv_at hl 0 rfl) ?_
            refine x_callVR (As := [.int (zI j)]) (rest := []) S hK (c_X5_signAt l D cs (epd a) pd ln j (by omega) (by omega)) (cwV 1 hts gX6_carryOut_X5_signAt rfl rfl rfl (by decide +kernel) ⟨(Nat.le_of_ble_eq_true rfl), (Nat.le_of_ble_eq_true rfl)⟩) (x_rc hK (pAt_0 (eAt_P hE)) rfl) (eAt_P hE) rfl hl.1 (Nat.le_of_ble_eq_true rfl) dX6_carryOut_59 ⟨Nat.zero_le _, Nat.zero_le _⟩ ?_
            have hsg := sgA_rng (ln := ln) (k := j) hp0
            refine x_bipush hx hb dX6_carryOut_62 (by decide +kernel) ?_
            refine x_icmp_eq (tgt := 70) hx hb dX6_carryOut_64 (by decide) (by omega) (by omega) (fun c_64 => ?_) (fun c_64 => ?_)
            · have hole2 := hole (by omega)
              have hje : ordE pd ln p0 = j := by first | omega | (have := ord_in (pd := pd) (ln := ln) i1.1 (hord (by omega)).1 j i1.2.1; have e := cd_in (sg_cd (pd := pd) (ln := ln) c_64 (by decide)) (by decide); by_cases q : j < ordE pd ln p0; (exact absurd e.2 (this q).2); omega)
              refine lv_aload_n hx hb dX6_carryOut_70 rfl (lv_at hl 3 rfl) ?_
              refine lv_iload_n hx hb dX6_carryOut_71 rfl (lv_at hl 1 rfl) ?_
              refine lv_iload_n hx hb dX6_carryOut_72 rfl (lv_at hl 0 rfl) ?_
              by_cases z_73 : whN t0 pd ln p0 = 0
              · have hds := SM_dos i2 i1.1 (by omega) ((LE_whN i2.2.2 pd ln p0).symm.trans z_73) (by omega)
                refine x_callVM (As := [.int (zI p0), .int (zI j)]) (rest := []) S hK (c_X6_carryOneOut_ok l D cs a t0 ss (upH hh fr (cpH (hh fr) τ)) pr pd ln fr kp su p0 j (by exact hI) (by exact hg1) (by omega) (by omega) (by omega) (by exact hp0) (by first | exact z_73 | omega)) (cwV 2 hts gX6_carryOut_X6_carryOneOut rfl rfl rfl (by decide +kernel) ⟨(Nat.le_of_ble_eq_true rfl), (Nat.le_of_ble_eq_true rfl)⟩) (x_rc hK (eAt_0 hE) rfl) hE rfl hl.1 (Nat.le_of_ble_eq_true rfl) dX6_carryOut_73 ⟨Nat.zero_le _, Nat.zero_le _⟩ hS (fun q hq => hq) (fun H locs hB hF hS => ?_)
                have hE : eAt D cs a (dosC t0 pd ln p0) ss (upH hh fr (cpH (hh fr) τ)) pr pd ln fr kp su H := hB
                refine x_if_ge (tgt := 82) hx hb dX6_carryOut_76 (by decide) (by omega) (fun c_76 => ?_) (fun c_76 => ?_)
                · refine x_iinc (x := dn) (lv' := [(1, .int (zI (dn + 1))), (3, .int (zI j)), (2, .int (zI p0)), (0, .ref (a 0))]) hx hb dX6_carryOut_82 hl (k := 2) rfl (by decide) rfl (fun ls hl => ?_)
                  refine lv_iload_n hx hb dX6_carryOut_85 rfl (lv_at hl 1 rfl) ?_
                  refine x_iconst hx hb dX6_carryOut_86 ?_
                  refine x_iadd hx hb dX6_carryOut_87 ?_
                  refine lv_istore_n (lv' := [(2, .int (zI (j + 1))), (1, .int (zI (dn + 1))), (3, .int (zI j)), (0, .ref (a 0))]) hx hb dX6_carryOut_88 rfl hl (by decide) rfl (fun ls hl => ?_)
                  refine x_iinc (x := j) (lv' := [(3, .int (zI (j + 1))), (2, .int (zI (j + 1))), (1, .int (zI (dn + 1))), (0, .ref (a 0))]) hx hb dX6_carryOut_89 hl (k := 2) rfl (by decide) rfl (fun ls hl => ?_)
                  refine lv_goto (tgt := 32) hx hb dX6_carryOut_92 (by decide) ?_
                  exact ih32 (j + 1) (j + 1) (dn + 1) (dosC t0 pd ln p0) (dosS s1 pd ln p0) (f0 - 1) (by omega) (by omega) (by first | exact SM_mono hds.1 (by omega) | exact i2) (by first | exact i3 | (intro q; rcases (hord (by omega)).2 with w | w; (exfalso; omega); (rw [← hje, show f0 - 1 - 1 = f0 - 2 by omega]; exact w.2))) (by omega) (by first | (intro q; have w := hord q; have w2 := hole q; by_cases e : j = ordE pd ln p0; (exfalso; rcases w.2 with u | u; (omega); (rw [← e] at u; have := cd_sg u.1 (by decide) (by omega); omega)); omega) | (intro q; rcases (hord (by omega)).2 with w | w; (exfalso; omega); (have w2 := w.2; rw [hje, show f0 - 2 = (f0 - 3) + 1 by omega] at w2; have := (flt_ord w2 (by omega)).1; have := (ordE_rng pd ln (j + 1) (by omega)).2.2 this; omega))) (by first | exact i5 | (rw [← i5]; exact cocS_st (by omega) (by omega) z_73 hje)) (by first | exact i6 | (rw [← i6, ← cocN_st (f := f0) (by omega) (by omega) z_73 hje]; omega)) (by omega) H locs hE hS ls (lv_sub hl [0, 1, 2, 3] rfl)
                · exfalso; omega
              · have hwr := whN_rng t0 pd ln p0
                refine x_callVR (As := [.int (zI p0), .int (zI j)]) (rest := []) S hK (c_X6_carryOneOut_bad l D cs a t0 ss (upH hh fr (cpH (hh fr) τ)) pr pd ln fr kp su p0 j (by exact hg1) (by omega) (by omega) (by omega) (by exact hp0) (by first | exact z_73 | omega)) (cwV 2 hts gX6_carryOut_X6_carryOneOut rfl rfl rfl (by decide +kernel) ⟨(Nat.le_of_ble_eq_true rfl), (Nat.le_of_ble_eq_true rfl)⟩) (x_rc hK (eAt_0 hE) rfl) hE rfl hl.1 (Nat.le_of_ble_eq_true rfl) dX6_carryOut_73 ⟨Nat.zero_le _, Nat.zero_le _⟩ ?_
                refine x_if_ge (tgt := 82) hx hb dX6_carryOut_76 (by decide) (by omega) (fun c_76 => ?_) (fun c_76 => ?_)
                · exfalso; have := whN_rng t0 pd ln p0; omega
                · refine lv_goto (tgt := 95) hx hb dX6_carryOut_79 (by decide) ?_
                  refine lv_aload_n hx hb dX6_carryOut_95 rfl (lv_at hl 3 rfl) ?_
                  refine e_g_pad S hin6 hK hE (hts (.fieldLink RX6 26 "EnergyDiscs" "pad" "LEnergyDiscs$Pad;") (by decide +kernel)) dX6_carryOut_96 ?_
                  refine x_callVMn (As := []) (rest := []) S hK (c_X5_clear l D cs (epd a) pd ln (by exact eI_P hI)) (cwV 0 hts gX6_carryOut_X5_clear rfl rfl rfl (by decide +kernel) ⟨(Nat.le_of_ble_eq_true rfl), (Nat.le_of_ble_eq_true rfl)⟩) (x_rc hK (pAt_0 (eAt_P hE)) rfl) (eAt_P hE) rfl hl.1 (Nat.le_of_ble_eq_true rfl) dX6_carryOut_99 ⟨Nat.zero_le _, Nat.zero_le _⟩ hS eC_P (fun H locs hB hF hS => ?_)
                  have hE : eAt D cs a t0 ss (upH hh fr (cpH (hh fr) τ)) pr pd 0 fr kp su H := eAt_setP hE hI hB hF
                  refine lv_aload_n hx hb dX6_carryOut_102 rfl (lv_at hl 3 rfl) ?_
                  refine e_g_history S hin6 hK hE (hts (.fieldLink RX6 33 "EnergyDiscs" "history" "LEnergyDiscs$History;") (by decide +kernel)) dX6_carryOut_103 ?_
                  refine lv_iload_n hx hb dX6_carryOut_106 rfl (lv_at hl 2 rfl) ?_
                  refine x_callVM (As := [.int (zI dn)]) (rest := []) S hK (c_X1_settle_ok l D cs a t0 ss (upH hh fr (cpH (hh fr) τ)) pr pd 0 fr kp su dn (by omega) (by omega) (by exact hI) (by omega) (by omega)) (cwV 1 hts gX6_carryOut_X1_settle rfl rfl rfl (by decide +kernel) ⟨(Nat.le_of_ble_eq_true rfl), (Nat.le_of_ble_eq_true rfl)⟩) (x_rc hK (eAt_4 hE) rfl) hE rfl hl.1 (Nat.le_of_ble_eq_true rfl) dX6_carryOut_107 ⟨Nat.zero_le _, Nat.zero_le _⟩ hS (fun q hq => hq) (fun H locs hB hF hS => ?_)
                  have hE : eAt D cs a t0 ss (upH hh fr (cpH (hh fr) τ)) pr pd 0 ((fr + 1) % 7) (min 6 (kp + 1)) su H := hB
                  exact x_iretM hx hb hr hlocks (by rw [← i6]; first | (rw [cocN_stop (fun q => by omega)]; omega) | (rw [cocN_stop (fun q => z_73 q.2)]; omega)) (eAt_cong hE (by rw [← i5]; first | exact (cocS_stop (fun q => by omega)).symm | exact (cocS_stop (fun q => z_73 q.2)).symm) rfl rfl rfl rfl rfl rfl rfl rfl) hS dX6_carryOut_110
            · refine lv_goto (tgt := 89) hx hb dX6_carryOut_67 (by decide) ?_
              refine x_iinc (x := j) (lv' := [(3, .int (zI (j + 1))), (2, .int (zI p0)), (1, .int (zI dn)), (0, .ref (a 0))]) hx hb dX6_carryOut_89 hl (k := 0) rfl (by decide) rfl (fun ls hl => ?_)
              refine lv_goto (tgt := 32) hx hb dX6_carryOut_92 (by decide) ?_
              exact ih32 (j + 1) p0 dn t0 s1 f0 (by omega) (by omega) (by first | exact SM_mono hds.1 (by omega) | exact i2) (by first | exact i3 | (intro q; rcases (hord (by omega)).2 with w | w; (exfalso; omega); (rw [← hje, show f0 - 1 - 1 = f0 - 2 by omega]; exact w.2))) (by omega) (by first | (intro q; have w := hord q; have w2 := hole q; by_cases e : j = ordE pd ln p0; (exfalso; rcases w.2 with u | u; (omega); (rw [← e] at u; have := cd_sg u.1 (by decide) (by omega); omega)); omega) | (intro q; rcases (hord (by omega)).2 with w | w; (exfalso; omega); (have w2 := w.2; rw [hje, show f0 - 2 = (f0 - 3) + 1 by omega] at w2; have := (flt_ord w2 (by omega)).1; have := (ordE_rng pd ln (j + 1) (by omega)).2.2 this; omega))) (by first | exact i5 | (rw [← i5]; exact cocS_st (by omega) (by omega) z_73 hje)) (by first | exact i6 | (rw [← i6, ← cocN_st (f := f0) (by omega) (by omega) z_73 hje]; omega)) (by omega) H locs hE hS ls (lv_sub hl [0, 1, 2, 3] rfl)
    exact lp32 ((ln + 1 - (0 : Int)).toNat + 1) 0 0 0 τ σ 81 (Nat.lt_succ_self _) (by omega) (by exact SM_mono hM (by omega)) (by exact fun _ => hn) (by omega) (by exact fun _ => by have := (flt_ord hn (by decide)).1; omega) (by rfl) (by omega) (by omega) H locs hE hS ls (lv_sub hl [0, 1, 2, 3] rfl)
  · exact absurd hn c_9
