set_option maxHeartbeats 4000000 in
set_option maxRecDepth 100000 in
theorem l_isWritten (l : Launch) (D : va_G) (cs : Nat → ClassId) (a : Int → Nat) (τ : Int → Int) (pd : Int → Int) (ln : Int) (k : Int) (N : Int) (hG : GD N τ) (hI : eI a) (hk : 0 ≤ k ∧ k < τ 7) : kM D cs l yL_isWritten wsL_isWritten ({ frames := 4, cells := 0, slots := 0, locals := 91 } : Room) [.ref (a 0), .int (zI k)] (fun H => PW D cs a τ pd ln H) (some (.int (zI 1))) (fun H => PW D cs a τ (wrD τ pd k) 0 H) (eC a) := by
  refine Met.ofW (cc := cL_isWritten) (maxL := 8) (ret := (some .boolean)) (by decide) rfl ?_
  intro p e s m args below meth c s₁ B hml hv
  obtain ⟨rfl, hK, hW⟩ := hv
  have hx := B.exec
  have hb := B.bytes
  have hr := B.returns
  have hts := atoms_spec (ws := wsL_isWritten) B.pre
  have hown : s.vm.findClass RL = some m.cls := findClass_of_methodNamed B.named
  have hlocks := B.notSynchronized
  have S : CallFix p m c cL_isWritten 8 s (([.ref (a 0), .int (zI k)] : List Value)).toArray wsL_isWritten RL := ⟨hx, hb, hml, hown, hts⟩
  have hS : va_S (eC a) s.heap s.heap [] := va_S.rf
  have hl := lv_entry ([.ref (a 0), .int (zI k)]) (n := 8) (Nat.le_of_ble_eq_true rfl)
  rw [lg_entry_eq]
  generalize (lg_sl ([.ref (a 0), .int (zI k)]) ++ List.replicate (8 - (lg_sl ([.ref (a 0), .int (zI k)])).length) Slot.unset).toArray = ls at hl ⊢
  have hl : lv_has ls 8 [(0, .ref (a 0)), (1, .int (zI k))] := hl
  have h7 := gd_7 hG
  have h8 := gd_8 hG
  have h6 := gd_6 hG
  have h10 := gd_10 hG
  have hNn := hG.1
  refine lv_aload_n hx hb dL_isWritten_0 rfl (lv_at hl 0 rfl) ?_
  refine lv_iload_n hx hb dL_isWritten_1 rfl (lv_at hl 1 rfl) ?_
  refine x_callVM (As := [.int (zI k)]) (rest := []) S hK (p_write l D cs a τ pd ln k (by first | exact hG | exact hG2) (by exact hI) (by first | exact hk | omega)) (cwV 1 hts gL_isWritten_X6_write rfl rfl rfl (by decide +kernel) ⟨(Nat.le_of_ble_eq_true rfl), (Nat.le_of_ble_eq_true rfl)⟩) (PW_rc hK hW) hW rfl hl.1 (Nat.le_of_ble_eq_true rfl) dL_isWritten_2 ⟨Nat.zero_le _, Nat.zero_le _⟩ hS (fun q hq => hq) (fun H locs hB hF hS => ?_)
  have hW : PW D cs a τ (wrD τ pd k) (wrA τ k) H := hB
  obtain ⟨hln, hch, q0, qe, qm, qf, a1, b1, c1, PT1, TE1, PT2, TE2, PT3, hend⟩ := wr_all (pd := pd) hG hk
  have hm := gd_m hG hk
  obtain ⟨T3, TE3, hT3⟩ : ∃ T : Int, sgA (wrD τ pd k) (wrA τ k) (1 + (a1 : Int) + 1 + (b1 : Int) + 1 + (c1 : Int)) = T ∧ ((τ (11 + 13 * k + 7) = 1 ∧ T = 33 ∧ wrA τ k = 1 + (a1 : Int) + 1 + (b1 : Int) + 1 + (c1 : Int) + 1) ∨ (¬ τ (11 + 13 * k + 7) = 1 ∧ T = -1 ∧ wrA τ k = 1 + (a1 : Int) + 1 + (b1 : Int) + 1 + (c1 : Int))) := ⟨_, rfl, hend⟩
  have hp1 := PT1.1
  have hp2 := PT2.1
  have hp3 := PT3.1
  refine lv_istore_n (lv' := [(2, .int (zI (wrA τ k))), (0, .ref (a 0)), (1, .int (zI k))]) hx hb dL_isWritten_5 rfl hl (by decide) rfl (fun ls hl => ?_)
  refine x_iconst hx hb dL_isWritten_6 ?_
  refine lv_istore_n (lv' := [(3, .int (zI 1)), (2, .int (zI (wrA τ k))), (0, .ref (a 0)), (1, .int (zI k))]) hx hb dL_isWritten_7 rfl hl (by decide) rfl (fun ls hl => ?_)
  refine lv_aload_n hx hb dL_isWritten_8 rfl (lv_at hl 2 rfl) ?_
  refine x_iconst hx hb dL_isWritten_9 ?_
  refine x_callVR (As := [.int (zI 0)]) (rest := []) S hK (p_sign l D cs a τ (wrD τ pd k) (wrA τ k) 0 (by omega) (by first | exact hk | omega)) (cwV 1 hts gL_isWritten_X6_sign rfl rfl rfl (by decide +kernel) ⟨(Nat.le_of_ble_eq_true rfl), (Nat.le_of_ble_eq_true rfl)⟩) (PW_rc hK hW) hW rfl hl.1 (Nat.le_of_ble_eq_true rfl) dL_isWritten_10 ⟨Nat.zero_le _, Nat.zero_le _⟩ ?_
  refine x_bipush hx hb dL_isWritten_13 (by decide +kernel) ?_
  refine x_icmp_neE (tgt := 47) hx hb dL_isWritten_15 (by decide) (by omega) ?_
  refine lv_aload_n hx hb dL_isWritten_18 rfl (lv_at hl 2 rfl) ?_
  refine lv_iload_n hx hb dL_isWritten_19 rfl (lv_at hl 1 rfl) ?_
  refine x_callVR (As := [.int (zI (wrA τ k))]) (rest := []) S hK (p_sign l D cs a τ (wrD τ pd k) (wrA τ k) (wrA τ k) (by omega) (by first | exact hk | omega)) (cwV 1 hts gL_isWritten_X6_sign rfl rfl rfl (by decide +kernel) ⟨(Nat.le_of_ble_eq_true rfl), (Nat.le_of_ble_eq_true rfl)⟩) (PW_rc hK hW) hW rfl hl.1 (Nat.le_of_ble_eq_true rfl) dL_isWritten_20 ⟨Nat.zero_le _, Nat.zero_le _⟩ ?_
  refine x_iconst hx hb dL_isWritten_23 ?_
  refine x_icmp_neE (tgt := 47) hx hb dL_isWritten_24 (by decide) (by omega) ?_
  refine lv_aload_n hx hb dL_isWritten_27 rfl (lv_at hl 2 rfl) ?_
  refine x_iconst hx hb dL_isWritten_28 ?_
  refine x_callVR (As := [.int (zI ((-1)))]) (rest := []) S hK (p_sign l D cs a τ (wrD τ pd k) (wrA τ k) ((-1)) (by omega) (by first | exact hk | omega)) (cwV 1 hts gL_isWritten_X6_sign rfl rfl rfl (by decide +kernel) ⟨(Nat.le_of_ble_eq_true rfl), (Nat.le_of_ble_eq_true rfl)⟩) (PW_rc hK hW) hW rfl hl.1 (Nat.le_of_ble_eq_true rfl) dL_isWritten_29 ⟨Nat.zero_le _, Nat.zero_le _⟩ ?_
  refine x_iconst hx hb dL_isWritten_32 ?_
  refine x_icmp_neE (tgt := 47) hx hb dL_isWritten_33 (by decide) (by omega) ?_
  refine lv_aload_n hx hb dL_isWritten_36 rfl (lv_at hl 2 rfl) ?_
  refine x_callVR (As := []) (rest := []) S hK (p_fault l D cs a τ (wrD τ pd k) (wrA τ k) (by omega) (by exact hch)) (cwV 0 hts gL_isWritten_X6_fault rfl rfl rfl (by decide +kernel) ⟨(Nat.le_of_ble_eq_true rfl), (Nat.le_of_ble_eq_true rfl)⟩) (PW_rc hK hW) hW rfl hl.1 (Nat.le_of_ble_eq_true rfl) dL_isWritten_37 ⟨Nat.zero_le _, Nat.zero_le _⟩ ?_
  refine x_if_neE (tgt := 47) hx hb dL_isWritten_40 (by decide) (by omega) ?_
  refine x_iconst hx hb dL_isWritten_43 ?_
  refine lv_goto (tgt := 48) hx hb dL_isWritten_44 (by decide) ?_
  refine lv_istore (lv' := [(4, .int (zI 1)), (3, .int (zI 1)), (2, .int (zI (wrA τ k))), (0, .ref (a 0)), (1, .int (zI k))]) hx hb dL_isWritten_48 hl (by decide) rfl (fun ls hl => ?_)
  refine x_iconst hx hb dL_isWritten_50 ?_
  refine lv_istore (lv' := [(5, .int (zI 0)), (4, .int (zI 1)), (3, .int (zI 1)), (2, .int (zI (wrA τ k))), (0, .ref (a 0)), (1, .int (zI k))]) hx hb dL_isWritten_51 hl (by decide) rfl (fun ls hl => ?_)
  refine lv_iload hx hb dL_isWritten_53 (lv_at hl 0 rfl) ?_
  refine x_iconst hx hb dL_isWritten_55 ?_
  refine x_icmp_ge (tgt := 205) hx hb dL_isWritten_56 (by decide) (by decide) (by decide) (fun q => absurd q (by decide)) (fun _ => ?_)
  obtain ⟨P0, hP0⟩ : ∃ z : Int, z = 1 := ⟨_, rfl⟩
  obtain ⟨V0, hV0⟩ : ∃ z : Int, z = τ (11 + 13 * k + 3) := ⟨_, rfl⟩
  obtain ⟨n0, hn0⟩ : ∃ z : Nat, z = a1 := ⟨_, rfl⟩
  obtain ⟨T0, hT0⟩ : ∃ z : Int, z = 110 := ⟨_, rfl⟩
  have hPT : PT (wrD τ pd k) (wrA τ k) P0 V0 n0 := by rw [hP0, hV0, hn0]; exact PT1
  have hTE : sgA (wrD τ pd k) (wrA τ k) (P0 + (n0 : Int)) = T0 := by rw [hP0, hn0, hT0]; exact TE1
  have hn8 := hPT.1
  refine x_iconst hx hb dL_isWritten_59 ?_
  refine lv_istore (lv' := [(6, .int (zI 0)), (5, .int (zI 0)), (4, .int (zI 1)), (3, .int (zI 1)), (2, .int (zI (wrA τ k))), (0, .ref (a 0)), (1, .int (zI k))]) hx hb dL_isWritten_60 hl (by decide) rfl (fun ls hl => ?_)
  refine x_iconst hx hb dL_isWritten_62 ?_
  refine lv_istore (lv' := [(7, .int (zI 0)), (6, .int (zI 0)), (5, .int (zI 0)), (4, .int (zI 1)), (3, .int (zI 1)), (2, .int (zI (wrA τ k))), (0, .ref (a 0)), (1, .int (zI k))]) hx hb dL_isWritten_63 hl (by decide) rfl (fun ls hl => ?_)
  have lp65 : ∀ (n : Nat) (j : Int) (v : Int) (i0 : Int) (g0 : Nat), ((n0 : Int) - j).toNat < n → (j = (g0 : Int)) → (g0 ≤ n0) → (i0 = P0 + (g0 : Int)) → (v = V0 / 10 ^ (n0 - g0)) → ∀ (H : Heap) (locs : List Loc), PW D cs a τ (wrD τ pd k) (wrA τ k) H → va_S (eC a) s.heap H locs → ∀ (ls : Array Slot), lv_has ls 8 [(7, .int (zI j)), (6, .int (zI v)), (5, .int (zI 0)), (4, .int (zI 1)), (3, .int (zI i0)), (2, .int (zI (wrA τ k))), (0, .ref (a 0)), (1, .int (zI k))] → W p l e (headSpec wsL_isWritten ({ frames := 4, cells := 0, slots := 0, locals := 91 } : Room)).room s m ([.ref (a 0), .int (zI k)] : List Value).toArray below meth c H locs 0 0 (MQ below (kQ (some (.int (zI 1))) (fun H => PW D cs a τ (wrD τ pd k) 0 H) (eC a)) ([.ref (a 0), .int (zI k)] : List Value).toArray s 0 0 (eC a)) (F0 m 65 ls []) := by
    intro n
    induction n with
    | zero => intro j v i0 g0 hms; exact absurd hms (Nat.not_lt_zero _)
    | succ n ih =>
      intro j v i0 g0 hms w1 w2 w3 w4 H locs hW hS ls hl
      have hsg := PT_at hPT hTE w3 w2
      have ih65 := ih
      clear ih
      refine lv_aload_n hx hb dL_isWritten_65 rfl (lv_at hl 6 rfl) ?_
      refine lv_iload_n hx hb dL_isWritten_66 rfl (lv_at hl 4 rfl) ?_
      refine x_callVR (As := [.int (zI i0)]) (rest := []) S hK (p_sign l D cs a τ (wrD τ pd k) (wrA τ k) i0 (by omega) (by first | exact hk | omega)) (cwV 1 hts gL_isWritten_X6_sign rfl rfl rfl (by decide +kernel) ⟨(Nat.le_of_ble_eq_true rfl), (Nat.le_of_ble_eq_true rfl)⟩) (PW_rc hK hW) hW rfl hl.1 (Nat.le_of_ble_eq_true rfl) dL_isWritten_67 ⟨Nat.zero_le _, Nat.zero_le _⟩ ?_
      refine x_bipush hx hb dL_isWritten_70 (by decide +kernel) ?_
      refine x_icmp_lt (tgt := 117) hx hb dL_isWritten_72 (by decide) (by omega) (by omega) (fun c_72 => ?_) (fun c_72 => ?_)
      · exfalso; omega
      · refine lv_aload_n hx hb dL_isWritten_75 rfl (lv_at hl 6 rfl) ?_
        refine lv_iload_n hx hb dL_isWritten_76 rfl (lv_at hl 4 rfl) ?_
        refine x_callVR (As := [.int (zI i0)]) (rest := []) S hK (p_sign l D cs a τ (wrD τ pd k) (wrA τ k) i0 (by omega) (by first | exact hk | omega)) (cwV 1 hts gL_isWritten_X6_sign rfl rfl rfl (by decide +kernel) ⟨(Nat.le_of_ble_eq_true rfl), (Nat.le_of_ble_eq_true rfl)⟩) (PW_rc hK hW) hW rfl hl.1 (Nat.le_of_ble_eq_true rfl) dL_isWritten_77 ⟨Nat.zero_le _, Nat.zero_le _⟩ ?_
        refine x_bipush hx hb dL_isWritten_80 (by decide +kernel) ?_
        refine x_icmp_gt (tgt := 117) hx hb dL_isWritten_82 (by decide) (by omega) (by omega) (fun c_82 => ?_) (fun c_82 => ?_)
        · have evv : v = V0 := by rw [w4, show n0 - g0 = 0 by omega]; exact Int.ediv_one V0
          refine lv_iload hx hb dL_isWritten_117 (lv_at hl 3 rfl) ?_
          refine x_if_eq (tgt := 182) hx hb dL_isWritten_119 (by decide) (by decide) (fun q => absurd q (by decide)) (fun _ => ?_)
          refine lv_iload hx hb dL_isWritten_122 (lv_at hl 0 rfl) ?_
          refine x_if_le (tgt := 182) hx hb dL_isWritten_124 (by decide) (by omega) (fun c_124 => ?_) (fun c_124 => ?_)
          · exfalso; omega
          · refine lv_iload hx hb dL_isWritten_127 (lv_at hl 1 rfl) ?_
            refine lv_aload_n hx hb dL_isWritten_129 rfl (lv_at hl 6 rfl) ?_
            refine lv_iload_n hx hb dL_isWritten_130 rfl (lv_at hl 7 rfl) ?_
            refine lv_iload hx hb dL_isWritten_131 (lv_at hl 2 rfl) ?_
            refine x_iconst hx hb dL_isWritten_133 ?_
            refine x_icmp_ne (tgt := 142) hx hb dL_isWritten_134 (by decide) (by decide) (by decide) (fun _ => ?_) (fun q => absurd q (by decide))
            refine x_iconst hx hb dL_isWritten_142 ?_
            refine lv_iload hx hb dL_isWritten_143 (lv_at hl 2 rfl) ?_
            refine x_iadd hx hb dL_isWritten_145 ?_
            rw [show (4 + 0 : Int) = 4 from Int.add_zero _]
            refine x_callVR (As := [.int (zI k), .int (zI 4)]) (rest := [.int (zI v)]) S hK (p_of_4 l D cs a τ (wrD τ pd k) (wrA τ k) k (by first | exact hG | exact hG2) (by first | exact hk | omega)) (cwV 2 hts gL_isWritten_X6_of rfl rfl rfl (by decide +kernel) ⟨(Nat.le_of_ble_eq_true rfl), (Nat.le_of_ble_eq_true rfl)⟩) (PW_rc hK hW) hW rfl hl.1 (Nat.le_of_ble_eq_true rfl) dL_isWritten_146 ⟨Nat.zero_le _, Nat.zero_le _⟩ ?_
            refine x_icmp_neE (tgt := 182) hx hb dL_isWritten_149 (by decide) (by omega) ?_
            refine lv_iload hx hb dL_isWritten_152 (lv_at hl 2 rfl) ?_
            refine x_iconst hx hb dL_isWritten_154 ?_
            refine x_icmp_eq (tgt := 178) hx hb dL_isWritten_155 (by decide) (by decide) (by decide) (fun q => absurd q (by decide)) (fun _ => ?_)
            refine lv_aload_n hx hb dL_isWritten_158 rfl (lv_at hl 6 rfl) ?_
            refine lv_iload_n hx hb dL_isWritten_159 rfl (lv_at hl 4 rfl) ?_
            refine x_callVR (As := [.int (zI i0)]) (rest := []) S hK (p_sign l D cs a τ (wrD τ pd k) (wrA τ k) i0 (by omega) (by first | exact hk | omega)) (cwV 1 hts gL_isWritten_X6_sign rfl rfl rfl (by decide +kernel) ⟨(Nat.le_of_ble_eq_true rfl), (Nat.le_of_ble_eq_true rfl)⟩) (PW_rc hK hW) hW rfl hl.1 (Nat.le_of_ble_eq_true rfl) dL_isWritten_160 ⟨Nat.zero_le _, Nat.zero_le _⟩ ?_
            refine lv_iload hx hb dL_isWritten_163 (lv_at hl 2 rfl) ?_
            refine x_if_ne (tgt := 173) hx hb dL_isWritten_165 (by decide) (by decide) (fun q => absurd q (by decide)) (fun _ => ?_)
            refine x_bipush hx hb dL_isWritten_168 (by decide +kernel) ?_
            refine lv_goto (tgt := 175) hx hb dL_isWritten_170 (by decide) ?_
            refine x_icmp_neE (tgt := 182) hx hb dL_isWritten_175 (by decide) (by omega) ?_
            refine x_iconst hx hb dL_isWritten_178 ?_
            refine lv_goto (tgt := 183) hx hb dL_isWritten_179 (by decide) ?_
            refine lv_istore (lv' := [(4, .int (zI 1)), (7, .int (zI j)), (6, .int (zI v)), (5, .int (zI 0)), (3, .int (zI i0)), (2, .int (zI (wrA τ k))), (0, .ref (a 0)), (1, .int (zI k))]) hx hb dL_isWritten_183 hl (by decide) rfl (fun ls hl => ?_)
            refine lv_iload_n hx hb dL_isWritten_185 rfl (lv_at hl 4 rfl) ?_
            refine lv_iload hx hb dL_isWritten_186 (lv_at hl 3 rfl) ?_
            refine x_iconst hx hb dL_isWritten_188 ?_
            refine x_icmp_ne (tgt := 196) hx hb dL_isWritten_189 (by decide) (by decide) (by decide) (fun _ => ?_) (fun q => absurd q (by decide))
            refine x_iconst hx hb dL_isWritten_196 ?_
            refine x_iadd hx hb dL_isWritten_197 ?_
            refine lv_istore_n (lv' := [(3, .int (zI (i0 + 1))), (4, .int (zI 1)), (7, .int (zI j)), (6, .int (zI v)), (5, .int (zI 0)), (2, .int (zI (wrA τ k))), (0, .ref (a 0)), (1, .int (zI k))]) hx hb dL_isWritten_198 rfl hl (by decide) rfl (fun ls hl => ?_)
            refine x_iinc (x := 0) (lv' := [(5, .int (zI (0 + 1))), (3, .int (zI (i0 + 1))), (4, .int (zI 1)), (7, .int (zI j)), (6, .int (zI v)), (2, .int (zI (wrA τ k))), (0, .ref (a 0)), (1, .int (zI k))]) hx hb dL_isWritten_199 hl (k := 4) rfl (by decide) rfl (fun ls hl => ?_)
            rw [show (0 + 1 : Int) = 1 from rfl] at hl
            refine lv_goto (tgt := 53) hx hb dL_isWritten_202 (by decide) ?_
            refine lv_iload hx hb dL_isWritten_53 (lv_at hl 0 rfl) ?_
            refine x_iconst hx hb dL_isWritten_55 ?_
            refine x_icmp_ge (tgt := 205) hx hb dL_isWritten_56 (by decide) (by decide) (by decide) (fun q => absurd q (by decide)) (fun _ => ?_)
            obtain ⟨P0, hP0⟩ : ∃ z : Int, z = 1 + (a1 : Int) + 1 := ⟨_, rfl⟩
            obtain ⟨V0, hV0⟩ : ∃ z : Int, z = τ (11 + 13 * k + 4) := ⟨_, rfl⟩
            obtain ⟨n0, hn0⟩ : ∃ z : Nat, z = b1 := ⟨_, rfl⟩
            obtain ⟨T0, hT0⟩ : ∃ z : Int, z = 35 := ⟨_, rfl⟩
            have hPT : PT (wrD τ pd k) (wrA τ k) P0 V0 n0 := by rw [hP0, hV0, hn0]; exact PT2
            have hTE : sgA (wrD τ pd k) (wrA τ k) (P0 + (n0 : Int)) = T0 := by rw [hP0, hn0, hT0]; exact TE2
            have hn8 := hPT.1
            refine x_iconst hx hb dL_isWritten_59 ?_
            refine lv_istore (lv' := [(6, .int (zI 0)), (5, .int (zI 1)), (3, .int (zI (i0 + 1))), (4, .int (zI 1)), (7, .int (zI j)), (2, .int (zI (wrA τ k))), (0, .ref (a 0)), (1, .int (zI k))]) hx hb dL_isWritten_60 hl (by decide) rfl (fun ls hl => ?_)
            refine x_iconst hx hb dL_isWritten_62 ?_
            refine lv_istore (lv' := [(7, .int (zI 0)), (6, .int (zI 0)), (5, .int (zI 1)), (3, .int (zI (i0 + 1))), (4, .int (zI 1)), (2, .int (zI (wrA τ k))), (0, .ref (a 0)), (1, .int (zI k))]) hx hb dL_isWritten_63 hl (by decide) rfl (fun ls hl => ?_)
            have lp65 : ∀ (n : Nat) (j : Int) (v : Int) (i0 : Int) (g0 : Nat), ((n0 : Int) - j).toNat < n → (j = (g0 : Int)) → (g0 ≤ n0) → (i0 = P0 + (g0 : Int)) → (v = V0 / 10 ^ (n0 - g0)) → ∀ (H : Heap) (locs : List Loc), PW D cs a τ (wrD τ pd k) (wrA τ k) H → va_S (eC a) s.heap H locs → ∀ (ls : Array Slot), lv_has ls 8 [(7, .int (zI j)), (6, .int (zI v)), (5, .int (zI 1)), (3, .int (zI i0)), (4, .int (zI 1)), (2, .int (zI (wrA τ k))), (0, .ref (a 0)), (1, .int (zI k))] → W p l e (headSpec wsL_isWritten ({ frames := 4, cells := 0, slots := 0, locals := 91 } : Room)).room s m ([.ref (a 0), .int (zI k)] : List Value).toArray below meth c H locs 0 0 (MQ below (kQ (some (.int (zI 1))) (fun H => PW D cs a τ (wrD τ pd k) 0 H) (eC a)) ([.ref (a 0), .int (zI k)] : List Value).toArray s 0 0 (eC a)) (F0 m 65 ls []) := by
              intro n
              induction n with
              | zero => intro j v i0 g0 hms; exact absurd hms (Nat.not_lt_zero _)
              | succ n ih =>
                intro j v i0 g0 hms w1 w2 w3 w4 H locs hW hS ls hl
                have hsg := PT_at hPT hTE w3 w2
                have ih65 := ih
                clear ih
                refine lv_aload_n hx hb dL_isWritten_65 rfl (lv_at hl 6 rfl) ?_
                refine lv_iload_n hx hb dL_isWritten_66 rfl (lv_at hl 3 rfl) ?_
                refine x_callVR (As := [.int (zI i0)]) (rest := []) S hK (p_sign l D cs a τ (wrD τ pd k) (wrA τ k) i0 (by omega) (by first | exact hk | omega)) (cwV 1 hts gL_isWritten_X6_sign rfl rfl rfl (by decide +kernel) ⟨(Nat.le_of_ble_eq_true rfl), (Nat.le_of_ble_eq_true rfl)⟩) (PW_rc hK hW) hW rfl hl.1 (Nat.le_of_ble_eq_true rfl) dL_isWritten_67 ⟨Nat.zero_le _, Nat.zero_le _⟩ ?_
                refine x_bipush hx hb dL_isWritten_70 (by decide +kernel) ?_
                refine x_icmp_lt (tgt := 117) hx hb dL_isWritten_72 (by decide) (by omega) (by omega) (fun c_72 => ?_) (fun c_72 => ?_)
                · have evv : v = V0 := by rw [w4, show n0 - g0 = 0 by omega]; exact Int.ediv_one V0
                  refine lv_iload hx hb dL_isWritten_117 (lv_at hl 4 rfl) ?_
                  refine x_if_eq (tgt := 182) hx hb dL_isWritten_119 (by decide) (by decide) (fun q => absurd q (by decide)) (fun _ => ?_)
                  refine lv_iload hx hb dL_isWritten_122 (lv_at hl 0 rfl) ?_
                  refine x_if_le (tgt := 182) hx hb dL_isWritten_124 (by decide) (by omega) (fun c_124 => ?_) (fun c_124 => ?_)
                  · exfalso; omega
                  · refine lv_iload hx hb dL_isWritten_127 (lv_at hl 1 rfl) ?_
                    refine lv_aload_n hx hb dL_isWritten_129 rfl (lv_at hl 6 rfl) ?_
                    refine lv_iload_n hx hb dL_isWritten_130 rfl (lv_at hl 7 rfl) ?_
                    refine lv_iload hx hb dL_isWritten_131 (lv_at hl 2 rfl) ?_
                    refine x_iconst hx hb dL_isWritten_133 ?_
                    refine x_icmp_ne (tgt := 142) hx hb dL_isWritten_134 (by decide) (by decide) (by decide) (fun _ => ?_) (fun q => absurd q (by decide))
                    refine x_iconst hx hb dL_isWritten_142 ?_
                    refine lv_iload hx hb dL_isWritten_143 (lv_at hl 2 rfl) ?_
                    refine x_iadd hx hb dL_isWritten_145 ?_
                    rw [show (4 + 1 : Int) = 5 from rfl]
                    refine x_callVR (As := [.int (zI k), .int (zI 5)]) (rest := [.int (zI v)]) S hK (p_of_5 l D cs a τ (wrD τ pd k) (wrA τ k) k (by first | exact hG | exact hG2) (by first | exact hk | omega)) (cwV 2 hts gL_isWritten_X6_of rfl rfl rfl (by decide +kernel) ⟨(Nat.le_of_ble_eq_true rfl), (Nat.le_of_ble_eq_true rfl)⟩) (PW_rc hK hW) hW rfl hl.1 (Nat.le_of_ble_eq_true rfl) dL_isWritten_146 ⟨Nat.zero_le _, Nat.zero_le _⟩ ?_
                    refine x_icmp_neE (tgt := 182) hx hb dL_isWritten_149 (by decide) (by omega) ?_
                    refine lv_iload hx hb dL_isWritten_152 (lv_at hl 2 rfl) ?_
                    refine x_iconst hx hb dL_isWritten_154 ?_
                    refine x_icmp_eq (tgt := 178) hx hb dL_isWritten_155 (by decide) (by decide) (by decide) (fun q => absurd q (by decide)) (fun _ => ?_)
                    refine lv_aload_n hx hb dL_isWritten_158 rfl (lv_at hl 6 rfl) ?_
                    refine lv_iload_n hx hb dL_isWritten_159 rfl (lv_at hl 3 rfl) ?_
                    refine x_callVR (As := [.int (zI i0)]) (rest := []) S hK (p_sign l D cs a τ (wrD τ pd k) (wrA τ k) i0 (by omega) (by first | exact hk | omega)) (cwV 1 hts gL_isWritten_X6_sign rfl rfl rfl (by decide +kernel) ⟨(Nat.le_of_ble_eq_true rfl), (Nat.le_of_ble_eq_true rfl)⟩) (PW_rc hK hW) hW rfl hl.1 (Nat.le_of_ble_eq_true rfl) dL_isWritten_160 ⟨Nat.zero_le _, Nat.zero_le _⟩ ?_
                    refine lv_iload hx hb dL_isWritten_163 (lv_at hl 2 rfl) ?_
                    refine x_if_ne (tgt := 173) hx hb dL_isWritten_165 (by decide) (by decide) (fun _ => ?_) (fun q => absurd q (by decide))
                    refine x_bipush hx hb dL_isWritten_173 (by decide +kernel) ?_
                    refine x_icmp_neE (tgt := 182) hx hb dL_isWritten_175 (by decide) (by omega) ?_
                    refine x_iconst hx hb dL_isWritten_178 ?_
                    refine lv_goto (tgt := 183) hx hb dL_isWritten_179 (by decide) ?_
                    refine lv_istore (lv' := [(4, .int (zI 1)), (7, .int (zI j)), (6, .int (zI v)), (5, .int (zI 1)), (3, .int (zI i0)), (2, .int (zI (wrA τ k))), (0, .ref (a 0)), (1, .int (zI k))]) hx hb dL_isWritten_183 hl (by decide) rfl (fun ls hl => ?_)
                    refine lv_iload_n hx hb dL_isWritten_185 rfl (lv_at hl 4 rfl) ?_
                    refine lv_iload hx hb dL_isWritten_186 (lv_at hl 3 rfl) ?_
                    refine x_iconst hx hb dL_isWritten_188 ?_
                    refine x_icmp_ne (tgt := 196) hx hb dL_isWritten_189 (by decide) (by decide) (by decide) (fun _ => ?_) (fun q => absurd q (by decide))
                    refine x_iconst hx hb dL_isWritten_196 ?_
                    refine x_iadd hx hb dL_isWritten_197 ?_
                    refine lv_istore_n (lv' := [(3, .int (zI (i0 + 1))), (4, .int (zI 1)), (7, .int (zI j)), (6, .int (zI v)), (5, .int (zI 1)), (2, .int (zI (wrA τ k))), (0, .ref (a 0)), (1, .int (zI k))]) hx hb dL_isWritten_198 rfl hl (by decide) rfl (fun ls hl => ?_)
                    refine x_iinc (x := 1) (lv' := [(5, .int (zI (1 + 1))), (3, .int (zI (i0 + 1))), (4, .int (zI 1)), (7, .int (zI j)), (6, .int (zI v)), (2, .int (zI (wrA τ k))), (0, .ref (a 0)), (1, .int (zI k))]) hx hb dL_isWritten_199 hl (k := 4) rfl (by decide) rfl (fun ls hl => ?_)
                    rw [show (1 + 1 : Int) = 2 from rfl] at hl
                    refine lv_goto (tgt := 53) hx hb dL_isWritten_202 (by decide) ?_
                    refine lv_iload hx hb dL_isWritten_53 (lv_at hl 0 rfl) ?_
                    refine x_iconst hx hb dL_isWritten_55 ?_
                    refine x_icmp_ge (tgt := 205) hx hb dL_isWritten_56 (by decide) (by decide) (by decide) (fun q => absurd q (by decide)) (fun _ => ?_)
                    obtain ⟨P0, hP0⟩ : ∃ z : Int, z = 1 + (a1 : Int) + 1 + (b1 : Int) + 1 := ⟨_, rfl⟩
                    obtain ⟨V0, hV0⟩ : ∃ z : Int, z = τ (11 + 13 * k + 6) := ⟨_, rfl⟩
                    obtain ⟨n0, hn0⟩ : ∃ z : Nat, z = c1 := ⟨_, rfl⟩
                    obtain ⟨T0, hT0⟩ : ∃ z : Int, z = T3 := ⟨_, rfl⟩
                    have hPT : PT (wrD τ pd k) (wrA τ k) P0 V0 n0 := by rw [hP0, hV0, hn0]; exact PT3
                    have hTE : sgA (wrD τ pd k) (wrA τ k) (P0 + (n0 : Int)) = T0 := by rw [hP0, hn0, hT0]; exact TE3
                    have hn8 := hPT.1
                    refine x_iconst hx hb dL_isWritten_59 ?_
                    refine lv_istore (lv' := [(6, .int (zI 0)), (5, .int (zI 2)), (3, .int (zI (i0 + 1))), (4, .int (zI 1)), (7, .int (zI j)), (2, .int (zI (wrA τ k))), (0, .ref (a 0)), (1, .int (zI k))]) hx hb dL_isWritten_60 hl (by decide) rfl (fun ls hl => ?_)
                    refine x_iconst hx hb dL_isWritten_62 ?_
                    refine lv_istore (lv' := [(7, .int (zI 0)), (6, .int (zI 0)), (5, .int (zI 2)), (3, .int (zI (i0 + 1))), (4, .int (zI 1)), (2, .int (zI (wrA τ k))), (0, .ref (a 0)), (1, .int (zI k))]) hx hb dL_isWritten_63 hl (by decide) rfl (fun ls hl => ?_)
                    have lp65 : ∀ (n : Nat) (j : Int) (v : Int) (i0 : Int) (g0 : Nat), ((n0 : Int) - j).toNat < n → (j = (g0 : Int)) → (g0 ≤ n0) → (i0 = P0 + (g0 : Int)) → (v = V0 / 10 ^ (n0 - g0)) → ∀ (H : Heap) (locs : List Loc), PW D cs a τ (wrD τ pd k) (wrA τ k) H → va_S (eC a) s.heap H locs → ∀ (ls : Array Slot), lv_has ls 8 [(7, .int (zI j)), (6, .int (zI v)), (5, .int (zI 2)), (3, .int (zI i0)), (4, .int (zI 1)), (2, .int (zI (wrA τ k))), (0, .ref (a 0)), (1, .int (zI k))] → W p l e (headSpec wsL_isWritten ({ frames := 4, cells := 0, slots := 0, locals := 91 } : Room)).room s m ([.ref (a 0), .int (zI k)] : List Value).toArray below meth c H locs 0 0 (MQ below (kQ (some (.int (zI 1))) (fun H => PW D cs a τ (wrD τ pd k) 0 H) (eC a)) ([.ref (a 0), .int (zI k)] : List Value).toArray s 0 0 (eC a)) (F0 m 65 ls []) := by
                      intro n
                      induction n with
                      | zero => intro j v i0 g0 hms; exact absurd hms (Nat.not_lt_zero _)
                      | succ n ih =>
                        intro j v i0 g0 hms w1 w2 w3 w4 H locs hW hS ls hl
                        have hsg := PT_at hPT hTE w3 w2
                        have ih65 := ih
                        clear ih
                        refine lv_aload_n hx hb dL_isWritten_65 rfl (lv_at hl 6 rfl) ?_
                        refine lv_iload_n hx hb dL_isWritten_66 rfl (lv_at hl 3 rfl) ?_
                        refine x_callVR (As := [.int (zI i0)]) (rest := []) S hK (p_sign l D cs a τ (wrD τ pd k) (wrA τ k) i0 (by omega) (by first | exact hk | omega)) (cwV 1 hts gL_isWritten_X6_sign rfl rfl rfl (by decide +kernel) ⟨(Nat.le_of_ble_eq_true rfl), (Nat.le_of_ble_eq_true rfl)⟩) (PW_rc hK hW) hW rfl hl.1 (Nat.le_of_ble_eq_true rfl) dL_isWritten_67 ⟨Nat.zero_le _, Nat.zero_le _⟩ ?_
                        refine x_bipush hx hb dL_isWritten_70 (by decide +kernel) ?_
                        refine x_icmp_lt (tgt := 117) hx hb dL_isWritten_72 (by decide) (by omega) (by omega) (fun c_72 => ?_) (fun c_72 => ?_)
                        · have evv : v = V0 := by rw [w4, show n0 - g0 = 0 by omega]; exact Int.ediv_one V0
                          refine lv_iload hx hb dL_isWritten_117 (lv_at hl 4 rfl) ?_
                          refine x_if_eq (tgt := 182) hx hb dL_isWritten_119 (by decide) (by decide) (fun q => absurd q (by decide)) (fun _ => ?_)
                          refine lv_iload hx hb dL_isWritten_122 (lv_at hl 0 rfl) ?_
                          refine x_if_le (tgt := 182) hx hb dL_isWritten_124 (by decide) (by omega) (fun c_124 => ?_) (fun c_124 => ?_)
                          · exfalso; omega
                          · refine lv_iload hx hb dL_isWritten_127 (lv_at hl 1 rfl) ?_
                            refine lv_aload_n hx hb dL_isWritten_129 rfl (lv_at hl 6 rfl) ?_
                            refine lv_iload_n hx hb dL_isWritten_130 rfl (lv_at hl 7 rfl) ?_
                            refine lv_iload hx hb dL_isWritten_131 (lv_at hl 2 rfl) ?_
                            refine x_iconst hx hb dL_isWritten_133 ?_
                            refine x_icmp_ne (tgt := 142) hx hb dL_isWritten_134 (by decide) (by decide) (by decide) (fun q => absurd q (by decide)) (fun _ => ?_)
                            refine x_bipush hx hb dL_isWritten_137 (by decide +kernel) ?_
                            refine lv_goto (tgt := 146) hx hb dL_isWritten_139 (by decide) ?_
                            refine x_callVR (As := [.int (zI k), .int (zI 7)]) (rest := [.int (zI v)]) S hK (p_of_7 l D cs a τ (wrD τ pd k) (wrA τ k) k (by first | exact hG | exact hG2) (by first | exact hk | omega)) (cwV 2 hts gL_isWritten_X6_of rfl rfl rfl (by decide +kernel) ⟨(Nat.le_of_ble_eq_true rfl), (Nat.le_of_ble_eq_true rfl)⟩) (PW_rc hK hW) hW rfl hl.1 (Nat.le_of_ble_eq_true rfl) dL_isWritten_146 ⟨Nat.zero_le _, Nat.zero_le _⟩ ?_
                            refine x_icmp_neE (tgt := 182) hx hb dL_isWritten_149 (by decide) (by omega) ?_
                            refine lv_iload hx hb dL_isWritten_152 (lv_at hl 2 rfl) ?_
                            refine x_iconst hx hb dL_isWritten_154 ?_
                            refine x_icmp_eq (tgt := 178) hx hb dL_isWritten_155 (by decide) (by decide) (by decide) (fun _ => ?_) (fun q => absurd q (by decide))
                            refine x_iconst hx hb dL_isWritten_178 ?_
                            refine lv_goto (tgt := 183) hx hb dL_isWritten_179 (by decide) ?_
                            refine lv_istore (lv' := [(4, .int (zI 1)), (7, .int (zI j)), (6, .int (zI v)), (5, .int (zI 2)), (3, .int (zI i0)), (2, .int (zI (wrA τ k))), (0, .ref (a 0)), (1, .int (zI k))]) hx hb dL_isWritten_183 hl (by decide) rfl (fun ls hl => ?_)
                            refine lv_iload_n hx hb dL_isWritten_185 rfl (lv_at hl 4 rfl) ?_
                            refine lv_iload hx hb dL_isWritten_186 (lv_at hl 3 rfl) ?_
                            refine x_iconst hx hb dL_isWritten_188 ?_
                            refine x_icmp_ne (tgt := 196) hx hb dL_isWritten_189 (by decide) (by decide) (by decide) (fun q => absurd q (by decide)) (fun _ => ?_)
                            refine x_iconst hx hb dL_isWritten_192 ?_
                            refine lv_goto (tgt := 197) hx hb dL_isWritten_193 (by decide) ?_
                            refine x_iadd hx hb dL_isWritten_197 ?_
                            rw [show (i0 + 0 : Int) = i0 from Int.add_zero _]
                            refine lv_istore_n (lv' := [(3, .int (zI i0)), (4, .int (zI 1)), (7, .int (zI j)), (6, .int (zI v)), (5, .int (zI 2)), (2, .int (zI (wrA τ k))), (0, .ref (a 0)), (1, .int (zI k))]) hx hb dL_isWritten_198 rfl hl (by decide) rfl (fun ls hl => ?_)
                            refine x_iinc (x := 2) (lv' := [(5, .int (zI (2 + 1))), (3, .int (zI i0)), (4, .int (zI 1)), (7, .int (zI j)), (6, .int (zI v)), (2, .int (zI (wrA τ k))), (0, .ref (a 0)), (1, .int (zI k))]) hx hb dL_isWritten_199 hl (k := 4) rfl (by decide) rfl (fun ls hl => ?_)
                            rw [show (2 + 1 : Int) = 3 from rfl] at hl
                            refine lv_goto (tgt := 53) hx hb dL_isWritten_202 (by decide) ?_
                            refine lv_iload hx hb dL_isWritten_53 (lv_at hl 0 rfl) ?_
                            refine x_iconst hx hb dL_isWritten_55 ?_
                            refine x_icmp_ge (tgt := 205) hx hb dL_isWritten_56 (by decide) (by decide) (by decide) (fun _ => ?_) (fun q => absurd q (by decide))
                            refine lv_aload_n hx hb dL_isWritten_205 rfl (lv_at hl 6 rfl) ?_
                            refine lv_iload_n hx hb dL_isWritten_206 rfl (lv_at hl 7 rfl) ?_
                            refine x_bipush hx hb dL_isWritten_207 (by decide +kernel) ?_
                            refine x_callVR (As := [.int (zI k), .int (zI 8)]) (rest := []) S hK (p_of_8 l D cs a τ (wrD τ pd k) (wrA τ k) k (by first | exact hG | exact hG2) (by first | exact hk | omega)) (cwV 2 hts gL_isWritten_X6_of rfl rfl rfl (by decide +kernel) ⟨(Nat.le_of_ble_eq_true rfl), (Nat.le_of_ble_eq_true rfl)⟩) (PW_rc hK hW) hW rfl hl.1 (Nat.le_of_ble_eq_true rfl) dL_isWritten_209 ⟨Nat.zero_le _, Nat.zero_le _⟩ ?_
                            refine x_iconst hx hb dL_isWritten_212 ?_
                            refine x_icmp_ne (tgt := 220) hx hb dL_isWritten_213 (by decide) (by omega) (by omega) (fun c_213 => ?_) (fun c_213 => ?_)
                            · refine x_iconst hx hb dL_isWritten_220 ?_
                              refine lv_istore (lv' := [(5, .int (zI 0)), (3, .int (zI i0)), (4, .int (zI 1)), (7, .int (zI j)), (6, .int (zI v)), (2, .int (zI (wrA τ k))), (0, .ref (a 0)), (1, .int (zI k))]) hx hb dL_isWritten_221 hl (by decide) rfl (fun ls hl => ?_)
                              refine lv_iload hx hb dL_isWritten_223 (lv_at hl 2 rfl) ?_
                              refine x_if_eq (tgt := 270) hx hb dL_isWritten_225 (by decide) (by decide) (fun q => absurd q (by decide)) (fun _ => ?_)
                              refine lv_iload hx hb dL_isWritten_228 (lv_at hl 0 rfl) ?_
                              refine x_if_eq (tgt := 253) hx hb dL_isWritten_230 (by decide) (by decide) (fun _ => ?_) (fun q => absurd q (by decide))
                              refine lv_iload_n hx hb dL_isWritten_253 rfl (lv_at hl 1 rfl) ?_
                              refine lv_iload_n hx hb dL_isWritten_254 rfl (lv_at hl 5 rfl) ?_
                              refine x_icmp_neE (tgt := 270) hx hb dL_isWritten_255 (by decide) (by omega) ?_
                              refine lv_aload_n hx hb dL_isWritten_258 rfl (lv_at hl 6 rfl) ?_
                              refine x_callVM (As := []) (rest := []) S hK (p_wipe l D cs a τ (wrD τ pd k) (wrA τ k) (by exact hI)) (cwV 0 hts gL_isWritten_X6_wipe rfl rfl rfl (by decide +kernel) ⟨(Nat.le_of_ble_eq_true rfl), (Nat.le_of_ble_eq_true rfl)⟩) (PW_rc hK hW) hW rfl hl.1 (Nat.le_of_ble_eq_true rfl) dL_isWritten_259 ⟨Nat.zero_le _, Nat.zero_le _⟩ hS (fun q hq => hq) (fun H locs hB hF hS => ?_)
                              have hW : PW D cs a τ (wrD τ pd k) 0 H := hB
                              refine lv_iload_n hx hb dL_isWritten_262 rfl (lv_at hl 5 rfl) ?_
                              refine x_icmp_neE (tgt := 270) hx hb dL_isWritten_263 (by decide) (by omega) ?_
                              refine x_iconst hx hb dL_isWritten_266 ?_
                              refine lv_goto (tgt := 271) hx hb dL_isWritten_267 (by decide) ?_
                              exact x_zretM hx hb hr hlocks (by first | rfl | omega) (by exact Or.inr rfl) hW hS dL_isWritten_271
                            · refine x_iconst hx hb dL_isWritten_216 ?_
                              refine lv_goto (tgt := 221) hx hb dL_isWritten_217 (by decide) ?_
                              refine lv_istore (lv' := [(5, .int (zI 1)), (3, .int (zI i0)), (4, .int (zI 1)), (7, .int (zI j)), (6, .int (zI v)), (2, .int (zI (wrA τ k))), (0, .ref (a 0)), (1, .int (zI k))]) hx hb dL_isWritten_221 hl (by decide) rfl (fun ls hl => ?_)
                              refine lv_iload hx hb dL_isWritten_223 (lv_at hl 2 rfl) ?_
                              refine x_if_eq (tgt := 270) hx hb dL_isWritten_225 (by decide) (by decide) (fun q => absurd q (by decide)) (fun _ => ?_)
                              refine lv_iload hx hb dL_isWritten_228 (lv_at hl 0 rfl) ?_
                              refine x_if_eq (tgt := 253) hx hb dL_isWritten_230 (by decide) (by decide) (fun q => absurd q (by decide)) (fun _ => ?_)
                              refine lv_aload_n hx hb dL_isWritten_233 rfl (lv_at hl 6 rfl) ?_
                              refine lv_iload_n hx hb dL_isWritten_234 rfl (lv_at hl 1 rfl) ?_
                              refine x_callVR (As := [.int (zI i0)]) (rest := []) S hK (p_sign l D cs a τ (wrD τ pd k) (wrA τ k) i0 (by omega) (by first | exact hk | omega)) (cwV 1 hts gL_isWritten_X6_sign rfl rfl rfl (by decide +kernel) ⟨(Nat.le_of_ble_eq_true rfl), (Nat.le_of_ble_eq_true rfl)⟩) (PW_rc hK hW) hW rfl hl.1 (Nat.le_of_ble_eq_true rfl) dL_isWritten_235 ⟨Nat.zero_le _, Nat.zero_le _⟩ ?_
                              refine x_bipush hx hb dL_isWritten_238 (by decide +kernel) ?_
                              refine x_icmp_neE (tgt := 270) hx hb dL_isWritten_240 (by decide) (by omega) ?_
                              refine lv_iload_n hx hb dL_isWritten_243 rfl (lv_at hl 1 rfl) ?_
                              refine lv_iload_n hx hb dL_isWritten_244 rfl (lv_at hl 5 rfl) ?_
                              refine x_iconst hx hb dL_isWritten_245 ?_
                              refine x_isub hx hb dL_isWritten_246 ?_
                              refine x_icmp_neE (tgt := 270) hx hb dL_isWritten_247 (by decide) (by omega) ?_
                              refine lv_goto (tgt := 258) hx hb dL_isWritten_250 (by decide) ?_
                              refine lv_aload_n hx hb dL_isWritten_258 rfl (lv_at hl 6 rfl) ?_
                              refine x_callVM (As := []) (rest := []) S hK (p_wipe l D cs a τ (wrD τ pd k) (wrA τ k) (by exact hI)) (cwV 0 hts gL_isWritten_X6_wipe rfl rfl rfl (by decide +kernel) ⟨(Nat.le_of_ble_eq_true rfl), (Nat.le_of_ble_eq_true rfl)⟩) (PW_rc hK hW) hW rfl hl.1 (Nat.le_of_ble_eq_true rfl) dL_isWritten_259 ⟨Nat.zero_le _, Nat.zero_le _⟩ hS (fun q hq => hq) (fun H locs hB hF hS => ?_)
                              have hW : PW D cs a τ (wrD τ pd k) 0 H := hB
                              refine lv_iload_n hx hb dL_isWritten_262 rfl (lv_at hl 5 rfl) ?_
                              refine x_icmp_neE (tgt := 270) hx hb dL_isWritten_263 (by decide) (by omega) ?_
                              refine x_iconst hx hb dL_isWritten_266 ?_
                              refine lv_goto (tgt := 271) hx hb dL_isWritten_267 (by decide) ?_
                              exact x_zretM hx hb hr hlocks (by first | rfl | omega) (by exact Or.inr rfl) hW hS dL_isWritten_271
                        · refine lv_aload_n hx hb dL_isWritten_75 rfl (lv_at hl 6 rfl) ?_
                          refine lv_iload_n hx hb dL_isWritten_76 rfl (lv_at hl 3 rfl) ?_
                          refine x_callVR (As := [.int (zI i0)]) (rest := []) S hK (p_sign l D cs a τ (wrD τ pd k) (wrA τ k) i0 (by omega) (by first | exact hk | omega)) (cwV 1 hts gL_isWritten_X6_sign rfl rfl rfl (by decide +kernel) ⟨(Nat.le_of_ble_eq_true rfl), (Nat.le_of_ble_eq_true rfl)⟩) (PW_rc hK hW) hW rfl hl.1 (Nat.le_of_ble_eq_true rfl) dL_isWritten_77 ⟨Nat.zero_le _, Nat.zero_le _⟩ ?_
                          refine x_bipush hx hb dL_isWritten_80 (by decide +kernel) ?_
                          refine x_icmp_gt (tgt := 117) hx hb dL_isWritten_82 (by decide) (by omega) (by omega) (fun c_82 => ?_) (fun c_82 => ?_)
                          · exfalso; omega
                          · refine lv_iload hx hb dL_isWritten_85 (lv_at hl 0 rfl) ?_
                            refine x_bipush hx hb dL_isWritten_87 (by decide +kernel) ?_
                            refine x_icmp_ge (tgt := 117) hx hb dL_isWritten_89 (by decide) (by omega) (by omega) (fun c_89 => ?_) (fun c_89 => ?_)
                            · exfalso; omega
                            · refine x_bipush hx hb dL_isWritten_92 (by decide +kernel) ?_
                              refine lv_iload hx hb dL_isWritten_94 (lv_at hl 1 rfl) ?_
                              refine x_imul hx hb dL_isWritten_96 ?_
                              refine lv_aload_n hx hb dL_isWritten_97 rfl (lv_at hl 6 rfl) ?_
                              refine lv_iload_n hx hb dL_isWritten_98 rfl (lv_at hl 3 rfl) ?_
                              refine x_callVR (As := [.int (zI i0)]) (rest := [.int (zI (10 * v))]) S hK (p_sign l D cs a τ (wrD τ pd k) (wrA τ k) i0 (by omega) (by first | exact hk | omega)) (cwV 1 hts gL_isWritten_X6_sign rfl rfl rfl (by decide +kernel) ⟨(Nat.le_of_ble_eq_true rfl), (Nat.le_of_ble_eq_true rfl)⟩) (PW_rc hK hW) hW rfl hl.1 (Nat.le_of_ble_eq_true rfl) dL_isWritten_99 ⟨Nat.zero_le _, Nat.zero_le _⟩ ?_
                              refine x_iadd hx hb dL_isWritten_102 ?_
                              refine x_bipush hx hb dL_isWritten_103 (by decide +kernel) ?_
                              refine x_isub hx hb dL_isWritten_105 ?_
                              refine lv_istore (lv' := [(6, .int (zI (((10 * v) + (sgA (wrD τ pd k) (wrA τ k) i0)) - 48))), (7, .int (zI j)), (5, .int (zI 2)), (3, .int (zI i0)), (4, .int (zI 1)), (2, .int (zI (wrA τ k))), (0, .ref (a 0)), (1, .int (zI k))]) hx hb dL_isWritten_106 hl (by decide) rfl (fun ls hl => ?_)
                              refine x_iinc (x := i0) (lv' := [(3, .int (zI (i0 + 1))), (6, .int (zI (((10 * v) + (sgA (wrD τ pd k) (wrA τ k) i0)) - 48))), (7, .int (zI j)), (5, .int (zI 2)), (4, .int (zI 1)), (2, .int (zI (wrA τ k))), (0, .ref (a 0)), (1, .int (zI k))]) hx hb dL_isWritten_108 hl (k := 3) rfl (by decide) rfl (fun ls hl => ?_)
                              refine x_iinc (x := j) (lv' := [(7, .int (zI (j + 1))), (3, .int (zI (i0 + 1))), (6, .int (zI (((10 * v) + (sgA (wrD τ pd k) (wrA τ k) i0)) - 48))), (5, .int (zI 2)), (4, .int (zI 1)), (2, .int (zI (wrA τ k))), (0, .ref (a 0)), (1, .int (zI k))]) hx hb dL_isWritten_111 hl (k := 2) rfl (by decide) rfl (fun ls hl => ?_)
                              refine lv_goto (tgt := 65) hx hb dL_isWritten_114 (by decide) ?_
                              exact ih65 (j + 1) (((10 * v) + (sgA (wrD τ pd k) (wrA τ k) i0)) - 48) (i0 + 1) (g0 + 1) (by omega) (by omega) (by omega) (by omega) (by rcases hsg with ⟨x1, x2⟩ | ⟨x1, x2⟩; (rw [x2, w4]; exact PT_step (by omega)); (exfalso; omega)) H locs hW hS ls (lv_sub hl [0, 2, 3, 1, 4, 5, 6, 7] rfl)
                    exact lp65 (((n0 : Int) - (0 : Int)).toNat + 1) 0 0 (i0 + 1) 0 (Nat.lt_succ_self _) (by omega) (by omega) (by omega) (by exact hPT.2.1.symm) H locs hW hS ls (lv_sub hl [0, 1, 2, 3, 4, 5, 6, 7] rfl)
                · refine lv_aload_n hx hb dL_isWritten_75 rfl (lv_at hl 6 rfl) ?_
                  refine lv_iload_n hx hb dL_isWritten_76 rfl (lv_at hl 3 rfl) ?_
                  refine x_callVR (As := [.int (zI i0)]) (rest := []) S hK (p_sign l D cs a τ (wrD τ pd k) (wrA τ k) i0 (by omega) (by first | exact hk | omega)) (cwV 1 hts gL_isWritten_X6_sign rfl rfl rfl (by decide +kernel) ⟨(Nat.le_of_ble_eq_true rfl), (Nat.le_of_ble_eq_true rfl)⟩) (PW_rc hK hW) hW rfl hl.1 (Nat.le_of_ble_eq_true rfl) dL_isWritten_77 ⟨Nat.zero_le _, Nat.zero_le _⟩ ?_
                  refine x_bipush hx hb dL_isWritten_80 (by decide +kernel) ?_
                  refine x_icmp_gt (tgt := 117) hx hb dL_isWritten_82 (by decide) (by omega) (by omega) (fun c_82 => ?_) (fun c_82 => ?_)
                  · exfalso; omega
                  · refine lv_iload hx hb dL_isWritten_85 (lv_at hl 0 rfl) ?_
                    refine x_bipush hx hb dL_isWritten_87 (by decide +kernel) ?_
                    refine x_icmp_ge (tgt := 117) hx hb dL_isWritten_89 (by decide) (by omega) (by omega) (fun c_89 => ?_) (fun c_89 => ?_)
                    · exfalso; omega
                    · refine x_bipush hx hb dL_isWritten_92 (by decide +kernel) ?_
                      refine lv_iload hx hb dL_isWritten_94 (lv_at hl 1 rfl) ?_
                      refine x_imul hx hb dL_isWritten_96 ?_
                      refine lv_aload_n hx hb dL_isWritten_97 rfl (lv_at hl 6 rfl) ?_
                      refine lv_iload_n hx hb dL_isWritten_98 rfl (lv_at hl 3 rfl) ?_
                      refine x_callVR (As := [.int (zI i0)]) (rest := [.int (zI (10 * v))]) S hK (p_sign l D cs a τ (wrD τ pd k) (wrA τ k) i0 (by omega) (by first | exact hk | omega)) (cwV 1 hts gL_isWritten_X6_sign rfl rfl rfl (by decide +kernel) ⟨(Nat.le_of_ble_eq_true rfl), (Nat.le_of_ble_eq_true rfl)⟩) (PW_rc hK hW) hW rfl hl.1 (Nat.le_of_ble_eq_true rfl) dL_isWritten_99 ⟨Nat.zero_le _, Nat.zero_le _⟩ ?_
                      refine x_iadd hx hb dL_isWritten_102 ?_
                      refine x_bipush hx hb dL_isWritten_103 (by decide +kernel) ?_
                      refine x_isub hx hb dL_isWritten_105 ?_
                      refine lv_istore (lv' := [(6, .int (zI (((10 * v) + (sgA (wrD τ pd k) (wrA τ k) i0)) - 48))), (7, .int (zI j)), (5, .int (zI 1)), (3, .int (zI i0)), (4, .int (zI 1)), (2, .int (zI (wrA τ k))), (0, .ref (a 0)), (1, .int (zI k))]) hx hb dL_isWritten_106 hl (by decide) rfl (fun ls hl => ?_)
                      refine x_iinc (x := i0) (lv' := [(3, .int (zI (i0 + 1))), (6, .int (zI (((10 * v) + (sgA (wrD τ pd k) (wrA τ k) i0)) - 48))), (7, .int (zI j)), (5, .int (zI 1)), (4, .int (zI 1)), (2, .int (zI (wrA τ k))), (0, .ref (a 0)), (1, .int (zI k))]) hx hb dL_isWritten_108 hl (k := 3) rfl (by decide) rfl (fun ls hl => ?_)
                      refine x_iinc (x := j) (lv' := [(7, .int (zI (j + 1))), (3, .int (zI (i0 + 1))), (6, .int (zI (((10 * v) + (sgA (wrD τ pd k) (wrA τ k) i0)) - 48))), (5, .int (zI 1)), (4, .int (zI 1)), (2, .int (zI (wrA τ k))), (0, .ref (a 0)), (1, .int (zI k))]) hx hb dL_isWritten_111 hl (k := 2) rfl (by decide) rfl (fun ls hl => ?_)
                      refine lv_goto (tgt := 65) hx hb dL_isWritten_114 (by decide) ?_
                      exact ih65 (j + 1) (((10 * v) + (sgA (wrD τ pd k) (wrA τ k) i0)) - 48) (i0 + 1) (g0 + 1) (by omega) (by omega) (by omega) (by omega) (by rcases hsg with ⟨x1, x2⟩ | ⟨x1, x2⟩; (rw [x2, w4]; exact PT_step (by omega)); (exfalso; omega)) H locs hW hS ls (lv_sub hl [0, 2, 3, 1, 4, 5, 6, 7] rfl)
            exact lp65 (((n0 : Int) - (0 : Int)).toNat + 1) 0 0 (i0 + 1) 0 (Nat.lt_succ_self _) (by omega) (by omega) (by omega) (by exact hPT.2.1.symm) H locs hW hS ls (lv_sub hl [0, 1, 2, 3, 4, 5, 6, 7] rfl)
        · refine lv_iload hx hb dL_isWritten_85 (lv_at hl 0 rfl) ?_
          refine x_bipush hx hb dL_isWritten_87 (by decide +kernel) ?_
          refine x_icmp_ge (tgt := 117) hx hb dL_isWritten_89 (by decide) (by omega) (by omega) (fun c_89 => ?_) (fun c_89 => ?_)
          · exfalso; omega
          · refine x_bipush hx hb dL_isWritten_92 (by decide +kernel) ?_
            refine lv_iload hx hb dL_isWritten_94 (lv_at hl 1 rfl) ?_
            refine x_imul hx hb dL_isWritten_96 ?_
            refine lv_aload_n hx hb dL_isWritten_97 rfl (lv_at hl 6 rfl) ?_
            refine lv_iload_n hx hb dL_isWritten_98 rfl (lv_at hl 4 rfl) ?_
            refine x_callVR (As := [.int (zI i0)]) (rest := [.int (zI (10 * v))]) S hK (p_sign l D cs a τ (wrD τ pd k) (wrA τ k) i0 (by omega) (by first | exact hk | omega)) (cwV 1 hts gL_isWritten_X6_sign rfl rfl rfl (by decide +kernel) ⟨(Nat.le_of_ble_eq_true rfl), (Nat.le_of_ble_eq_true rfl)⟩) (PW_rc hK hW) hW rfl hl.1 (Nat.le_of_ble_eq_true rfl) dL_isWritten_99 ⟨Nat.zero_le _, Nat.zero_le _⟩ ?_
            refine x_iadd hx hb dL_isWritten_102 ?_
            refine x_bipush hx hb dL_isWritten_103 (by decide +kernel) ?_
            refine x_isub hx hb dL_isWritten_105 ?_
            refine lv_istore (lv' := [(6, .int (zI (((10 * v) + (sgA (wrD τ pd k) (wrA τ k) i0)) - 48))), (7, .int (zI j)), (5, .int (zI 0)), (4, .int (zI 1)), (3, .int (zI i0)), (2, .int (zI (wrA τ k))), (0, .ref (a 0)), (1, .int (zI k))]) hx hb dL_isWritten_106 hl (by decide) rfl (fun ls hl => ?_)
            refine x_iinc (x := i0) (lv' := [(3, .int (zI (i0 + 1))), (6, .int (zI (((10 * v) + (sgA (wrD τ pd k) (wrA τ k) i0)) - 48))), (7, .int (zI j)), (5, .int (zI 0)), (4, .int (zI 1)), (2, .int (zI (wrA τ k))), (0, .ref (a 0)), (1, .int (zI k))]) hx hb dL_isWritten_108 hl (k := 4) rfl (by decide) rfl (fun ls hl => ?_)
            refine x_iinc (x := j) (lv' := [(7, .int (zI (j + 1))), (3, .int (zI (i0 + 1))), (6, .int (zI (((10 * v) + (sgA (wrD τ pd k) (wrA τ k) i0)) - 48))), (5, .int (zI 0)), (4, .int (zI 1)), (2, .int (zI (wrA τ k))), (0, .ref (a 0)), (1, .int (zI k))]) hx hb dL_isWritten_111 hl (k := 2) rfl (by decide) rfl (fun ls hl => ?_)
            refine lv_goto (tgt := 65) hx hb dL_isWritten_114 (by decide) ?_
            exact ih65 (j + 1) (((10 * v) + (sgA (wrD τ pd k) (wrA τ k) i0)) - 48) (i0 + 1) (g0 + 1) (by omega) (by omega) (by omega) (by omega) (by rcases hsg with ⟨x1, x2⟩ | ⟨x1, x2⟩; (rw [x2, w4]; exact PT_step (by omega)); (exfalso; omega)) H locs hW hS ls (lv_sub hl [0, 2, 3, 4, 1, 5, 6, 7] rfl)
  exact lp65 (((n0 : Int) - (0 : Int)).toNat + 1) 0 0 1 0 (Nat.lt_succ_self _) (by omega) (by omega) (by omega) (by exact hPT.2.1.symm) H locs hW hS ls (lv_sub hl [0, 1, 2, 3, 4, 5, 6, 7] rfl)
