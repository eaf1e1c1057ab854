set_option maxHeartbeats 4000000 in
set_option maxRecDepth 100000 in
theorem c_X2_copyFrom (l : Launch) (D : va_G) (cs : Nat → ClassId) (a : Int → Nat) (τ : Int → Int) (a2 : Int → Nat) (τ2 : Int → Int) (hI : hI23 a) (hdis : ∀ i j : Int, 0 ≤ i → i < 23 → 0 ≤ j → j < 23 → a i ≠ a2 j) (hg : gOK τ2 0) : kM D cs l yX2_copyFrom wsX2_copyFrom ({ frames := 1, cells := 0, slots := 0, locals := 21 } : Room) [.ref (a 0), .ref (a2 0)] (fun H => hAt D cs a τ H ∧ hAt D cs a2 τ2 H) none (fun H => hAt D cs a (cpH τ τ2) H ∧ hAt D cs a2 τ2 H) (hC23 a) := by
  refine Met.ofW (cc := cX2_copyFrom) (maxL := 3) (ret := none) (by decide) rfl ?_
  intro p e s m args below meth c s₁ B hml hv
  obtain ⟨rfl, hK, hH, hH2⟩ := hv
  have hx := B.exec
  have hb := B.bytes
  have hr := B.returns
  have hts := atoms_spec (ws := wsX2_copyFrom) B.pre
  have hown : s.vm.findClass RX2 = some m.cls := findClass_of_methodNamed B.named
  have hlocks := B.notSynchronized
  have S : CallFix p m c cX2_copyFrom 3 s (([.ref (a 0), .ref (a2 0)] : List Value)).toArray wsX2_copyFrom RX2 := ⟨hx, hb, hml, hown, hts⟩
  have hin2 : ∀ w ∈ wsX20, w ∈ wsX2_copyFrom := by decide +kernel
  have hS : va_S (hC23 a) s.heap s.heap [] := va_S.rf
  have hl := lv_entry ([.ref (a 0), .ref (a2 0)]) (n := 3) (Nat.le_of_ble_eq_true rfl)
  rw [lg_entry_eq]
  generalize (lg_sl ([.ref (a 0), .ref (a2 0)]) ++ List.replicate (3 - (lg_sl ([.ref (a 0), .ref (a2 0)])).length) Slot.unset).toArray = ls at hl ⊢
  have hl : lv_has ls 3 [(0, .ref (a 0)), (1, .ref (a2 0))] := hl
  have h7 := hg.1.1
  have h8 := hg.1.2.1
  refine x_iconst hx hb dX2_copyFrom_0 ?_
  refine lv_istore_n (lv' := [(2, .int (zI 0)), (0, .ref (a 0)), (1, .ref (a2 0))]) hx hb dX2_copyFrom_1 rfl hl (by decide) rfl (fun ls hl => ?_)
  have lp2 : ∀ (n : Nat) (j : Int) (g0 : Int → Int), (6 - j).toNat < n → (0 ≤ j ∧ j ≤ 6) → (g0 = cpN τ τ2 0 j) → ∀ (H : Heap) (locs : List Loc), hAt D cs a g0 H → hAt D cs a2 τ2 H → va_S (hC23 a) s.heap H locs → ∀ (ls : Array Slot), lv_has ls 3 [(2, .int (zI j)), (0, .ref (a 0)), (1, .ref (a2 0))] → W p l e (headSpec wsX2_copyFrom ({ frames := 1, cells := 0, slots := 0, locals := 21 } : Room)).room s m ([.ref (a 0), .ref (a2 0)] : List Value).toArray below meth c H locs 0 0 (MQ below (kQ none (fun H => hAt D cs a (cpH τ τ2) H ∧ hAt D cs a2 τ2 H) (hC23 a)) ([.ref (a 0), .ref (a2 0)] : List Value).toArray s 0 0 (hC23 a)) (F0 m 2 ls []) := by
    intro n
    induction n with
    | zero => intro j g0 hms; exact absurd hms (Nat.not_lt_zero _)
    | succ n ih =>
      intro j g0 hms hj h0 H locs hH hH2 hS ls hl
      have ih2 := ih
      clear ih
      refine lv_iload_n hx hb dX2_copyFrom_2 rfl (lv_at hl 0 rfl) ?_
      refine x_bipush hx hb dX2_copyFrom_3 (by decide +kernel) ?_
      refine x_icmp_ge (tgt := 26) hx hb dX2_copyFrom_5 (by decide) (by omega) (by omega) (fun c_5 => ?_) (fun c_5 => ?_)
      · refine x_iconst hx hb dX2_copyFrom_26 ?_
        refine lv_istore_n (lv' := [(2, .int (zI 0)), (0, .ref (a 0)), (1, .ref (a2 0))]) hx hb dX2_copyFrom_27 rfl hl (by decide) rfl (fun ls hl => ?_)
        have lp28 : ∀ (n : Nat) (j : Int) (g0 : Int → Int), (τ2 7 - j).toNat < n → (0 ≤ j ∧ j ≤ τ2 7) → (g0 = cpN (cpN τ τ2 0 6) (fun i => τ2 (11 + i)) 11 (13 * j)) → ∀ (H : Heap) (locs : List Loc), hAt D cs a g0 H → hAt D cs a2 τ2 H → va_S (hC23 a) s.heap H locs → ∀ (ls : Array Slot), lv_has ls 3 [(2, .int (zI j)), (0, .ref (a 0)), (1, .ref (a2 0))] → W p l e (headSpec wsX2_copyFrom ({ frames := 1, cells := 0, slots := 0, locals := 21 } : Room)).room s m ([.ref (a 0), .ref (a2 0)] : List Value).toArray below meth c H locs 0 0 (MQ below (kQ none (fun H => hAt D cs a (cpH τ τ2) H ∧ hAt D cs a2 τ2 H) (hC23 a)) ([.ref (a 0), .ref (a2 0)] : List Value).toArray s 0 0 (hC23 a)) (F0 m 28 ls []) := by
          intro n
          induction n with
          | zero => intro j g0 hms; exact absurd hms (Nat.not_lt_zero _)
          | succ n ih =>
            intro j g0 hms hj h0 H locs hH hH2 hS ls hl
            have ih28 := ih
            clear ih
            refine lv_iload_n hx hb dX2_copyFrom_28 rfl (lv_at hl 0 rfl) ?_
            refine lv_aload_n hx hb dX2_copyFrom_29 rfl (lv_at hl 2 rfl) ?_
            refine h_g_meterCount S hin2 hK (hAt_hs hH2) (hts (.fieldLink RX2 32 "EnergyDiscs$House" "meterCount" "I") (by decide +kernel)) dX2_copyFrom_30 ?_
            refine x_icmp_ge (tgt := 57) hx hb dX2_copyFrom_33 (by decide) (by omega) (by omega) (fun c_33 => ?_) (fun c_33 => ?_)
            · refine x_iconst hx hb dX2_copyFrom_57 ?_
              refine lv_istore_n (lv' := [(2, .int (zI 0)), (0, .ref (a 0)), (1, .ref (a2 0))]) hx hb dX2_copyFrom_58 rfl hl (by decide) rfl (fun ls hl => ?_)
              have lp59 : ∀ (n : Nat) (j : Int) (g0 : Int → Int), (τ2 8 - j).toNat < n → (0 ≤ j ∧ j ≤ τ2 8) → (g0 = cpN (cpN (cpN τ τ2 0 6) (fun i => τ2 (11 + i)) 11 (13 * τ2 7)) (fun i => τ2 (102 + i)) 102 (3 * j)) → ∀ (H : Heap) (locs : List Loc), hAt D cs a g0 H → hAt D cs a2 τ2 H → va_S (hC23 a) s.heap H locs → ∀ (ls : Array Slot), lv_has ls 3 [(2, .int (zI j)), (0, .ref (a 0)), (1, .ref (a2 0))] → W p l e (headSpec wsX2_copyFrom ({ frames := 1, cells := 0, slots := 0, locals := 21 } : Room)).room s m ([.ref (a 0), .ref (a2 0)] : List Value).toArray below meth c H locs 0 0 (MQ below (kQ none (fun H => hAt D cs a (cpH τ τ2) H ∧ hAt D cs a2 τ2 H) (hC23 a)) ([.ref (a 0), .ref (a2 0)] : List Value).toArray s 0 0 (hC23 a)) (F0 m 59 ls []) := by
                intro n
                induction n with
                | zero => intro j g0 hms; exact absurd hms (Nat.not_lt_zero _)
                | succ n ih =>
                  intro j g0 hms hj h0 H locs hH hH2 hS ls hl
                  have ih59 := ih
                  clear ih
                  refine lv_iload_n hx hb dX2_copyFrom_59 rfl (lv_at hl 0 rfl) ?_
                  refine lv_aload_n hx hb dX2_copyFrom_60 rfl (lv_at hl 2 rfl) ?_
                  refine h_g_loadCount S hin2 hK (hAt_hs hH2) (hts (.fieldLink RX2 40 "EnergyDiscs$House" "loadCount" "I") (by decide +kernel)) dX2_copyFrom_61 ?_
                  refine x_icmp_ge (tgt := 88) hx hb dX2_copyFrom_64 (by decide) (by omega) (by omega) (fun c_64 => ?_) (fun c_64 => ?_)
                  · refine lv_aload_n hx hb dX2_copyFrom_88 rfl (lv_at hl 1 rfl) ?_
                    refine lv_aload_n hx hb dX2_copyFrom_89 rfl (lv_at hl 2 rfl) ?_
                    refine h_g_time S hin2 hK (hAt_hs hH2) (hts (.fieldLink RX2 46 "EnergyDiscs$House" "time" "I") (by decide +kernel)) dX2_copyFrom_90 ?_
                    refine h_p_time S hin2 hK hH hI hS (bC_of (by decide) (by decide)) (hts (.fieldLink RX2 46 "EnergyDiscs$House" "time" "I") (by decide +kernel)) dX2_copyFrom_93 (fun H locs hH hF hS => ?_)
                    have hH2 : hAt D cs a2 τ2 H := hAt_F hH2 hF (fun i h0 h1 q => hdis 0 i (by omega) (by omega) h0 h1 q.symm)
                    refine lv_aload_n hx hb dX2_copyFrom_96 rfl (lv_at hl 1 rfl) ?_
                    refine lv_aload_n hx hb dX2_copyFrom_97 rfl (lv_at hl 2 rfl) ?_
                    refine h_g_meterCount S hin2 hK (hAt_hs hH2) (hts (.fieldLink RX2 32 "EnergyDiscs$House" "meterCount" "I") (by decide +kernel)) dX2_copyFrom_98 ?_
                    refine h_p_meterCount S hin2 hK hH hI hS (bC_of (by decide) (by decide)) (hts (.fieldLink RX2 32 "EnergyDiscs$House" "meterCount" "I") (by decide +kernel)) dX2_copyFrom_101 (fun H locs hH hF hS => ?_)
                    have hH2 : hAt D cs a2 τ2 H := hAt_F hH2 hF (fun i h0 h1 q => hdis 0 i (by omega) (by omega) h0 h1 q.symm)
                    refine lv_aload_n hx hb dX2_copyFrom_104 rfl (lv_at hl 1 rfl) ?_
                    refine lv_aload_n hx hb dX2_copyFrom_105 rfl (lv_at hl 2 rfl) ?_
                    refine h_g_loadCount S hin2 hK (hAt_hs hH2) (hts (.fieldLink RX2 40 "EnergyDiscs$House" "loadCount" "I") (by decide +kernel)) dX2_copyFrom_106 ?_
                    refine h_p_loadCount S hin2 hK hH hI hS (bC_of (by decide) (by decide)) (hts (.fieldLink RX2 40 "EnergyDiscs$House" "loadCount" "I") (by decide +kernel)) dX2_copyFrom_109 (fun H locs hH hF hS => ?_)
                    have hH2 : hAt D cs a2 τ2 H := hAt_F hH2 hF (fun i h0 h1 q => hdis 0 i (by omega) (by omega) h0 h1 q.symm)
                    refine lv_aload_n hx hb dX2_copyFrom_112 rfl (lv_at hl 1 rfl) ?_
                    refine lv_aload_n hx hb dX2_copyFrom_113 rfl (lv_at hl 2 rfl) ?_
                    refine h_g_greatestSeal S hin2 hK (hAt_hs hH2) (hts (.fieldLink RX2 49 "EnergyDiscs$House" "greatestSeal" "I") (by decide +kernel)) dX2_copyFrom_114 ?_
                    refine h_p_greatestSeal S hin2 hK hH hI hS (bC_of (by decide) (by decide)) (hts (.fieldLink RX2 49 "EnergyDiscs$House" "greatestSeal" "I") (by decide +kernel)) dX2_copyFrom_117 (fun H locs hH hF hS => ?_)
                    have hH2 : hAt D cs a2 τ2 H := hAt_F hH2 hF (fun i h0 h1 q => hdis 0 i (by omega) (by omega) h0 h1 q.symm)
                    exact x_vretM hx hb hr hlocks ⟨(hAt_cong hH (by rw [h0, show j = τ2 8 by omega]; exact hEq_rfl _)), hH2⟩ hS dX2_copyFrom_120
                  · refine lv_aload_n hx hb dX2_copyFrom_67 rfl (lv_at hl 1 rfl) ?_
                    refine h_g_loads S hin2 hK (hAt_hs hH) (hts (.fieldLink RX2 23 "EnergyDiscs$House" "loads" "[LEnergyDiscs$Load;") (by decide +kernel)) dX2_copyFrom_68 ?_
                    refine lv_iload_n hx hb dX2_copyFrom_71 rfl (lv_at hl 0 rfl) ?_
                    refine h_l_loads S hK hH (by omega) dX2_copyFrom_72 ?_
                    refine lv_aload_n hx hb dX2_copyFrom_73 rfl (lv_at hl 2 rfl) ?_
                    refine h_g_loads S hin2 hK (hAt_hs hH2) (hts (.fieldLink RX2 23 "EnergyDiscs$House" "loads" "[LEnergyDiscs$Load;") (by decide +kernel)) dX2_copyFrom_74 ?_
                    refine lv_iload_n hx hb dX2_copyFrom_77 rfl (lv_at hl 0 rfl) ?_
                    refine h_l_loads S hK hH2 (by omega) dX2_copyFrom_78 ?_
                    have hl2 := (hg.1.2.2.2 j hj.1 (by omega)).2.2
                    refine x_callVMn (As := [.ref (a2 (11 + j))]) (rest := []) S hK (c_X3_copyFrom l D cs (a (11 + j)) (lrec g0 j) (a2 (11 + j)) (lrec τ2 j) (by exact fun q => hdis (11 + j) (11 + j) (by omega) (by omega) (by omega) (by omega) q.symm) (by exact hl2)) (cwV 1 hts gX2_copyFrom_X3_copyFrom rfl rfl rfl (by decide +kernel) ⟨(Nat.le_of_ble_eq_true rfl), (Nat.le_of_ble_eq_true rfl)⟩) (x_rc hK (hAt_l hH (e := j) (by omega)) rfl) ⟨(hAt_l hH (e := j) (by omega)), (hAt_l hH2 (e := j) (by omega))⟩ rfl hl.1 (Nat.le_of_ble_eq_true rfl) dX2_copyFrom_79 ⟨Nat.zero_le _, Nat.zero_le _⟩ hS (hC_l (by omega)) (fun H locs hB hF hS => ?_)
                    have hH : hAt D cs a (inL g0 j ((lrec τ2 j))) H := hAt_setL hH hI (by omega) hB.1 hF
                    have hH2 : hAt D cs a2 τ2 H := hAt_F hH2 hF (fun i h0 h1 q => hdis (11 + j) i (by omega) (by omega) h0 h1 q.symm)
                    refine x_iinc (x := j) (lv' := [(2, .int (zI (j + 1))), (0, .ref (a 0)), (1, .ref (a2 0))]) hx hb dX2_copyFrom_82 hl (k := 0) rfl (by decide) rfl (fun ls hl => ?_)
                    refine lv_goto (tgt := 59) hx hb dX2_copyFrom_85 (by decide) ?_
                    exact ih59 (j + 1) (inL g0 j ((lrec τ2 j))) (by omega) (by omega) (by rw [h0]; exact cpN_inL hj.1) H locs hH hH2 hS ls (lv_sub hl [0, 1, 2] rfl)
              exact lp59 ((τ2 8 - (0 : Int)).toNat + 1) 0 g0 (Nat.lt_succ_self _) (by omega) (by rw [h0, show j = τ2 7 by omega]; exact (cpN_0 _ _ _).symm) H locs hH hH2 hS ls (lv_sub hl [0, 1, 2] rfl)
            · refine lv_aload_n hx hb dX2_copyFrom_36 rfl (lv_at hl 1 rfl) ?_
              refine h_g_meters S hin2 hK (hAt_hs hH) (hts (.fieldLink RX2 17 "EnergyDiscs$House" "meters" "[LEnergyDiscs$Meter;") (by decide +kernel)) dX2_copyFrom_37 ?_
              refine lv_iload_n hx hb dX2_copyFrom_40 rfl (lv_at hl 0 rfl) ?_
              refine h_l_meters S hK hH (by omega) dX2_copyFrom_41 ?_
              refine lv_aload_n hx hb dX2_copyFrom_42 rfl (lv_at hl 2 rfl) ?_
              refine h_g_meters S hin2 hK (hAt_hs hH2) (hts (.fieldLink RX2 17 "EnergyDiscs$House" "meters" "[LEnergyDiscs$Meter;") (by decide +kernel)) dX2_copyFrom_43 ?_
              refine lv_iload_n hx hb dX2_copyFrom_46 rfl (lv_at hl 0 rfl) ?_
              refine h_l_meters S hK hH2 (by omega) dX2_copyFrom_47 ?_
              have hd7 := (dOK_0 (hg.2.2 j hj.1 (by omega))).2.2.2
              refine x_callVMn (As := [.ref (a2 (4 + j))]) (rest := []) S hK (c_X4_copyFrom l D cs (a (4 + j)) (mrec g0 j) (a2 (4 + j)) (mrec τ2 j) (by exact fun q => hdis (4 + j) (4 + j) (by omega) (by omega) (by omega) (by omega) q.symm) (by exact hd7)) (cwV 1 hts gX2_copyFrom_X4_copyFrom rfl rfl rfl (by decide +kernel) ⟨(Nat.le_of_ble_eq_true rfl), (Nat.le_of_ble_eq_true rfl)⟩) (x_rc hK (hAt_m hH (e := j) (by omega)) rfl) ⟨(hAt_m hH (e := j) (by omega)), (hAt_m hH2 (e := j) (by omega))⟩ rfl hl.1 (Nat.le_of_ble_eq_true rfl) dX2_copyFrom_48 ⟨Nat.zero_le _, Nat.zero_le _⟩ hS (hC_m (by omega)) (fun H locs hB hF hS => ?_)
              have hH : hAt D cs a (inM g0 j ((mrec τ2 j))) H := hAt_setM hH hI (by omega) hB.1 hF
              have hH2 : hAt D cs a2 τ2 H := hAt_F hH2 hF (fun i h0 h1 q => hdis (4 + j) i (by omega) (by omega) h0 h1 q.symm)
              refine x_iinc (x := j) (lv' := [(2, .int (zI (j + 1))), (0, .ref (a 0)), (1, .ref (a2 0))]) hx hb dX2_copyFrom_51 hl (k := 0) rfl (by decide) rfl (fun ls hl => ?_)
              refine lv_goto (tgt := 28) hx hb dX2_copyFrom_54 (by decide) ?_
              exact ih28 (j + 1) (inM g0 j ((mrec τ2 j))) (by omega) (by omega) (by rw [h0]; exact cpN_inM hj.1) H locs hH hH2 hS ls (lv_sub hl [0, 1, 2] rfl)
        exact lp28 ((τ2 7 - (0 : Int)).toNat + 1) 0 g0 (Nat.lt_succ_self _) (by omega) (by rw [h0, show j = 6 by omega]; exact (cpN_0 _ _ _).symm) H locs hH hH2 hS ls (lv_sub hl [0, 1, 2] rfl)
      · refine lv_aload_n hx hb dX2_copyFrom_8 rfl (lv_at hl 1 rfl) ?_
        refine h_g_settings S hin2 hK (hAt_hs hH) (hts (.fieldLink RX2 9 "EnergyDiscs$House" "settings" "[I") (by decide +kernel)) dX2_copyFrom_9 ?_
        refine lv_iload_n hx hb dX2_copyFrom_12 rfl (lv_at hl 0 rfl) ?_
        refine lv_aload_n hx hb dX2_copyFrom_13 rfl (lv_at hl 2 rfl) ?_
        refine h_g_settings S hin2 hK (hAt_hs hH2) (hts (.fieldLink RX2 9 "EnergyDiscs$House" "settings" "[I") (by decide +kernel)) dX2_copyFrom_14 ?_
        refine lv_iload_n hx hb dX2_copyFrom_17 rfl (lv_at hl 0 rfl) ?_
        refine h_l_set S hK (hAt_hs hH2) (by omega) dX2_copyFrom_18 ?_
        refine h_s_set S hK hH hI hS (bC_of (by decide) (by decide)) (by omega) dX2_copyFrom_19 (fun H locs hH hF hS => ?_)
        have hH2 : hAt D cs a2 τ2 H := hAt_F hH2 hF (fun i h0 h1 q => hdis 1 i (by omega) (by omega) h0 h1 q.symm)
        refine x_iinc (x := j) (lv' := [(2, .int (zI (j + 1))), (0, .ref (a 0)), (1, .ref (a2 0))]) hx hb dX2_copyFrom_20 hl (k := 0) rfl (by decide) rfl (fun ls hl => ?_)
        refine lv_goto (tgt := 2) hx hb dX2_copyFrom_23 (by decide) ?_
        exact ih2 (j + 1) (up g0 j (τ2 j)) (by omega) (by omega) (by rw [h0]; exact cpN_step (by omega) rfl hj.1) H locs hH hH2 hS ls (lv_sub hl [0, 1, 2] rfl)
  exact lp2 ((6 - (0 : Int)).toNat + 1) 0 τ (Nat.lt_succ_self _) (by omega) (by exact (cpN_0 _ _ _).symm) s.heap [] hH hH2 hS ls (lv_sub hl [0, 1, 2] rfl)
set_option maxHeartbeats 4000000 in
set_option maxRecDepth 100000 in
theorem c_X2_changeSetting_bad (l : Launch) (D : va_G) (cs : Nat → ClassId) (a : Int → Nat) (τ : Int → Int) (k : Int) (v : Int) (N : Nat) (hk : -2147483648 ≤ k ∧ k < 2147483648) (hvr : -2147483648 ≤ v ∧ v < 2147483648) (hn : ¬ setOK k v) : kRz D cs N l yX2_changeSetting wsX2_changeSetting ({ frames := 0, cells := 0, slots := 0, locals := 0 } : Room) [.ref (a 0), .int (zI k), .int (zI v)] (fun H => hAt D cs a τ H) (some (.int (zI (-2)))) := by
  refine Met.ofW (cc := cX2_changeSetting) (maxL := 4) (ret := (some .int)) (by decide) rfl ?_
  intro p e s m args below meth c s₁ B hml hv
  obtain ⟨rfl, hK, hZ, hH⟩ := hv
  have hx := B.exec
  have hb := B.bytes
  have hr := B.returns
  have hts := atoms_spec (ws := wsX2_changeSetting) B.pre
  have hown : s.vm.findClass RX2 = some m.cls := findClass_of_methodNamed B.named
  have hlocks := B.notSynchronized
  have S : CallFix p m c cX2_changeSetting 4 s (([.ref (a 0), .int (zI k), .int (zI v)] : List Value)).toArray wsX2_changeSetting RX2 := ⟨hx, hb, hml, hown, hts⟩
  have hin2 : ∀ w ∈ wsX20, w ∈ wsX2_changeSetting := by decide +kernel
  have hS : va_S (fun _ => False) s.heap s.heap [] := va_S.rf
  have hN : ∀ q : Nat, False → N ≤ q := fun _ h => h.elim
  obtain ⟨⟨hw0, hw1, hw2⟩, t0, t1, t2, hZ0, hZ1, hZ2⟩ := id hZ
  have hl := lv_entry ([.ref (a 0), .int (zI k), .int (zI v)]) (n := 4) (Nat.le_of_ble_eq_true rfl)
  rw [lg_entry_eq]
  generalize (lg_sl ([.ref (a 0), .int (zI k), .int (zI v)]) ++ List.replicate (4 - (lg_sl ([.ref (a 0), .int (zI k), .int (zI v)])).length) Slot.unset).toArray = ls at hl ⊢
  have hl : lv_has ls 4 [(0, .ref (a 0)), (1, .int (zI k)), (2, .int (zI v))] := hl
  have hlo := loS_rng k
  have hhi := hiS_rng k
  refine lv_iload_n hx hb dX2_changeSetting_0 rfl (lv_at hl 1 rfl) ?_
  refine x_if_lt (tgt := 28) hx hb dX2_changeSetting_1 (by decide) (by omega) (fun c_1 => ?_) (fun c_1 => ?_)
  · refine x_bipush hx hb dX2_changeSetting_28 (by decide +kernel) ?_
    exact x_iretR hx hb hr hlocks (by first | rfl | omega) rfl dX2_changeSetting_30
  · refine lv_iload_n hx hb dX2_changeSetting_4 rfl (lv_at hl 1 rfl) ?_
    refine x_bipush hx hb dX2_changeSetting_5 (by decide +kernel) ?_
    refine x_icmp_ge (tgt := 28) hx hb dX2_changeSetting_7 (by decide) (by omega) (by omega) (fun c_7 => ?_) (fun c_7 => ?_)
    · refine x_bipush hx hb dX2_changeSetting_28 (by decide +kernel) ?_
      exact x_iretR hx hb hr hlocks (by first | rfl | omega) rfl dX2_changeSetting_30
    · refine lv_iload_n hx hb dX2_changeSetting_10 rfl (lv_at hl 2 rfl) ?_
      refine x_getsZ S hZ1 hS hN hw1 dX2_changeSetting_11 ?_
      refine lv_iload_n hx hb dX2_changeSetting_14 rfl (lv_at hl 1 rfl) ?_
      refine x_tldZ S hZ1 hS hN (by omega) dX2_changeSetting_15 ?_
      refine x_icmp_lt (tgt := 28) hx hb dX2_changeSetting_16 (by decide) (by omega) (by omega) (fun c_16 => ?_) (fun c_16 => ?_)
      · refine x_bipush hx hb dX2_changeSetting_28 (by decide +kernel) ?_
        exact x_iretR hx hb hr hlocks (by first | rfl | omega) rfl dX2_changeSetting_30
      · refine lv_iload_n hx hb dX2_changeSetting_19 rfl (lv_at hl 2 rfl) ?_
        refine x_getsZ S hZ2 hS hN hw2 dX2_changeSetting_20 ?_
        refine lv_iload_n hx hb dX2_changeSetting_23 rfl (lv_at hl 1 rfl) ?_
        refine x_tldZ S hZ2 hS hN (by omega) dX2_changeSetting_24 ?_
        refine x_icmp_le (tgt := 31) hx hb dX2_changeSetting_25 (by decide) (by omega) (by omega) (fun c_25 => ?_) (fun c_25 => ?_)
        · exact absurd ⟨⟨by omega, by omega⟩, by omega, by omega⟩ hn
        · refine x_bipush hx hb dX2_changeSetting_28 (by decide +kernel) ?_
          exact x_iretR hx hb hr hlocks (by first | rfl | omega) rfl dX2_changeSetting_30
set_option maxHeartbeats 4000000 in
set_option maxRecDepth 100000 in
theorem c_X2_changeSetting_ok (l : Launch) (D : va_G) (cs : Nat → ClassId) (a : Int → Nat) (τ : Int → Int) (k : Int) (v : Int) (N : Nat) (hk : -2147483648 ≤ k ∧ k < 2147483648) (hvr : -2147483648 ≤ v ∧ v < 2147483648) (hn : setOK k v) (hI : hI23 a) (hN : ∀ q, hC23 a q → N ≤ q) : kMz D cs N l yX2_changeSetting wsX2_changeSetting ({ frames := 0, cells := 0, slots := 0, locals := 0 } : Room) [.ref (a 0), .int (zI k), .int (zI v)] (fun H => hAt D cs a τ H) (some (.int (zI (τ k)))) (fun H => hAt D cs a (up τ k v) H) (hC23 a) := by
  refine Met.ofW (cc := cX2_changeSetting) (maxL := 4) (ret := (some .int)) (by decide) rfl ?_
  intro p e s m args below meth c s₁ B hml hv
  obtain ⟨rfl, hK, hZ, hH⟩ := hv
  have hx := B.exec
  have hb := B.bytes
  have hr := B.returns
  have hts := atoms_spec (ws := wsX2_changeSetting) B.pre
  have hown : s.vm.findClass RX2 = some m.cls := findClass_of_methodNamed B.named
  have hlocks := B.notSynchronized
  have S : CallFix p m c cX2_changeSetting 4 s (([.ref (a 0), .int (zI k), .int (zI v)] : List Value)).toArray wsX2_changeSetting RX2 := ⟨hx, hb, hml, hown, hts⟩
  have hin2 : ∀ w ∈ wsX20, w ∈ wsX2_changeSetting := by decide +kernel
  have hS : va_S (hC23 a) s.heap s.heap [] := va_S.rf
  obtain ⟨⟨hw0, hw1, hw2⟩, t0, t1, t2, hZ0, hZ1, hZ2⟩ := id hZ
  have hl := lv_entry ([.ref (a 0), .int (zI k), .int (zI v)]) (n := 4) (Nat.le_of_ble_eq_true rfl)
  rw [lg_entry_eq]
  generalize (lg_sl ([.ref (a 0), .int (zI k), .int (zI v)]) ++ List.replicate (4 - (lg_sl ([.ref (a 0), .int (zI k), .int (zI v)])).length) Slot.unset).toArray = ls at hl ⊢
  have hl : lv_has ls 4 [(0, .ref (a 0)), (1, .int (zI k)), (2, .int (zI v))] := hl
  have hlo := loS_rng k
  have hhi := hiS_rng k
  have hk5 := hn.1
  have hk6 := hn.2
  refine lv_iload_n hx hb dX2_changeSetting_0 rfl (lv_at hl 1 rfl) ?_
  refine x_if_lt (tgt := 28) hx hb dX2_changeSetting_1 (by decide) (by omega) (fun c_1 => ?_) (fun c_1 => ?_)
  · exfalso; omega
  · refine lv_iload_n hx hb dX2_changeSetting_4 rfl (lv_at hl 1 rfl) ?_
    refine x_bipush hx hb dX2_changeSetting_5 (by decide +kernel) ?_
    refine x_icmp_ge (tgt := 28) hx hb dX2_changeSetting_7 (by decide) (by omega) (by omega) (fun c_7 => ?_) (fun c_7 => ?_)
    · exfalso; omega
    · refine lv_iload_n hx hb dX2_changeSetting_10 rfl (lv_at hl 2 rfl) ?_
      refine x_getsZ S hZ1 hS hN hw1 dX2_changeSetting_11 ?_
      refine lv_iload_n hx hb dX2_changeSetting_14 rfl (lv_at hl 1 rfl) ?_
      refine x_tldZ S hZ1 hS hN (by omega) dX2_changeSetting_15 ?_
      refine x_icmp_lt (tgt := 28) hx hb dX2_changeSetting_16 (by decide) (by omega) (by omega) (fun c_16 => ?_) (fun c_16 => ?_)
      · exfalso; omega
      · refine lv_iload_n hx hb dX2_changeSetting_19 rfl (lv_at hl 2 rfl) ?_
        refine x_getsZ S hZ2 hS hN hw2 dX2_changeSetting_20 ?_
        refine lv_iload_n hx hb dX2_changeSetting_23 rfl (lv_at hl 1 rfl) ?_
        refine x_tldZ S hZ2 hS hN (by omega) dX2_changeSetting_24 ?_
        refine x_icmp_le (tgt := 31) hx hb dX2_changeSetting_25 (by decide) (by omega) (by omega) (fun c_25 => ?_) (fun c_25 => ?_)
        · refine lv_aload_n hx hb dX2_changeSetting_31 rfl (lv_at hl 0 rfl) ?_
          refine h_g_settings S hin2 hK (hAt_hs hH) (hts (.fieldLink RX2 9 "EnergyDiscs$House" "settings" "[I") (by decide +kernel)) dX2_changeSetting_32 ?_
          refine lv_iload_n hx hb dX2_changeSetting_35 rfl (lv_at hl 1 rfl) ?_
          refine h_l_set S hK (hAt_hs hH) (by omega) dX2_changeSetting_36 ?_
          refine lv_istore_n (lv' := [(3, .int (zI (τ k))), (0, .ref (a 0)), (1, .int (zI k)), (2, .int (zI v))]) hx hb dX2_changeSetting_37 rfl hl (by decide) rfl (fun ls hl => ?_)
          refine lv_aload_n hx hb dX2_changeSetting_38 rfl (lv_at hl 1 rfl) ?_
          refine h_g_settings S hin2 hK (hAt_hs hH) (hts (.fieldLink RX2 9 "EnergyDiscs$House" "settings" "[I") (by decide +kernel)) dX2_changeSetting_39 ?_
          refine lv_iload_n hx hb dX2_changeSetting_42 rfl (lv_at hl 2 rfl) ?_
          refine lv_iload_n hx hb dX2_changeSetting_43 rfl (lv_at hl 3 rfl) ?_
          refine h_s_set S hK hH hI hS (bC_of (by decide) (by decide)) (by omega) dX2_changeSetting_44 (fun H locs hH hF hS => ?_)
          refine lv_iload_n hx hb dX2_changeSetting_45 rfl (lv_at hl 0 rfl) ?_
          exact x_iretM hx hb hr hlocks (by first | rfl | omega) hH hS dX2_changeSetting_46
        · exfalso; omega
