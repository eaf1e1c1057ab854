set_option maxHeartbeats 4000000 in
set_option maxRecDepth 100000 in
theorem l_areMeters (l : Launch) (D : va_G) (cs : Nat → ClassId) (a : Int → Nat) (τ : Int → Int) (pd : Int → Int) (ln : Int) (N : Int) (hG : GD N τ) : kR D cs l yL_areMeters wsL_areMeters ({ frames := 4, cells := 0, slots := 0, locals := 91 } : Room) [.ref (a 0)] (fun H => PW D cs a τ pd ln H) (some (.int (zI 1))) := by
  refine Met.ofW (cc := cL_areMeters) (maxL := 19) (ret := (some .boolean)) (by decide) rfl ?_
  intro p e s m args below meth c s₁ B hml hv
  obtain ⟨rfl, hK, hW⟩ := hv
  have hx := B.exec
  have hb := B.bytes
  have hr := B.returns
  have hts := atoms_spec (ws := wsL_areMeters) B.pre
  have hown : s.vm.findClass RL = some m.cls := findClass_of_methodNamed B.named
  have hlocks := B.notSynchronized
  have S : CallFix p m c cL_areMeters 19 s (([.ref (a 0)] : List Value)).toArray wsL_areMeters RL := ⟨hx, hb, hml, hown, hts⟩
  have hl := lv_entry ([.ref (a 0)]) (n := 19) (Nat.le_of_ble_eq_true rfl)
  rw [lg_entry_eq]
  generalize (lg_sl ([.ref (a 0)]) ++ List.replicate (19 - (lg_sl ([.ref (a 0)])).length) Slot.unset).toArray = ls at hl ⊢
  have hl : lv_has ls 19 [(0, .ref (a 0))] := hl
  have h7 := gd_7 hG
  have h8 := gd_8 hG
  have h6 := gd_6 hG
  have h10 := gd_10 hG
  have hNn := hG.1
  refine lv_aload_n hx hb dL_areMeters_0 rfl (lv_at hl 0 rfl) ?_
  refine x_iconst hx hb dL_areMeters_1 ?_
  refine x_callVR (As := [.int (zI 2)]) (rest := []) S hK (p_count_2 l D cs a τ pd ln (by exact hG)) (cwV 1 hts gL_areMeters_X6_count rfl rfl rfl (by decide +kernel) ⟨(Nat.le_of_ble_eq_true rfl), (Nat.le_of_ble_eq_true rfl)⟩) (PW_rc hK hW) hW rfl hl.1 (Nat.le_of_ble_eq_true rfl) dL_areMeters_2 ⟨Nat.zero_le _, Nat.zero_le _⟩ ?_
  refine lv_istore_n (lv' := [(1, .int (zI (τ 7))), (0, .ref (a 0))]) hx hb dL_areMeters_5 rfl hl (by decide) rfl (fun ls hl => ?_)
  refine x_iconst hx hb dL_areMeters_6 ?_
  refine lv_istore_n (lv' := [(2, .int (zI 0)), (1, .int (zI (τ 7))), (0, .ref (a 0))]) hx hb dL_areMeters_7 rfl hl (by decide) rfl (fun ls hl => ?_)
  refine x_iconst hx hb dL_areMeters_8 ?_
  refine lv_istore_n (lv' := [(3, .int (zI 0)), (2, .int (zI 0)), (1, .int (zI (τ 7))), (0, .ref (a 0))]) hx hb dL_areMeters_9 rfl hl (by decide) rfl (fun ls hl => ?_)
  refine x_iconst hx hb dL_areMeters_10 ?_
  refine lv_istore (lv' := [(4, .int (zI 0)), (3, .int (zI 0)), (2, .int (zI 0)), (1, .int (zI (τ 7))), (0, .ref (a 0))]) hx hb dL_areMeters_11 hl (by decide) rfl (fun ls hl => ?_)
  refine x_iconst hx hb dL_areMeters_13 ?_
  refine lv_istore (lv' := [(5, .int (zI 0)), (4, .int (zI 0)), (3, .int (zI 0)), (2, .int (zI 0)), (1, .int (zI (τ 7))), (0, .ref (a 0))]) hx hb dL_areMeters_14 hl (by decide) rfl (fun ls hl => ?_)
  refine x_lconst (v := 0) hx hb dL_areMeters_16 rfl ?_
  refine lv_lstore (lv' := [(6, .long (zL 0)), (5, .int (zI 0)), (4, .int (zI 0)), (3, .int (zI 0)), (2, .int (zI 0)), (1, .int (zI (τ 7))), (0, .ref (a 0))]) hx hb dL_areMeters_17 hl (by decide) rfl (fun ls hl => ?_)
  refine x_bipush hx hb dL_areMeters_19 (by decide +kernel) ?_
  refine lv_istore (lv' := [(8, .int (zI ((-6)))), (6, .long (zL 0)), (5, .int (zI 0)), (4, .int (zI 0)), (3, .int (zI 0)), (2, .int (zI 0)), (1, .int (zI (τ 7))), (0, .ref (a 0))]) hx hb dL_areMeters_21 hl (by decide) rfl (fun ls hl => ?_)
  refine x_iconst hx hb dL_areMeters_23 ?_
  refine lv_istore (lv' := [(9, .int (zI 0)), (8, .int (zI ((-6)))), (6, .long (zL 0)), (5, .int (zI 0)), (4, .int (zI 0)), (3, .int (zI 0)), (2, .int (zI 0)), (1, .int (zI (τ 7))), (0, .ref (a 0))]) hx hb dL_areMeters_24 hl (by decide) rfl (fun ls hl => ?_)
  have lp26 : ∀ (n : Nat) (k : Int) (on : Int) (n0 : Nat), (τ 8 - k).toNat < n → (k = (n0 : Int)) → (k ≤ τ 8) → (on = onC τ n0) → ∀ (ls : Array Slot), lv_has ls 19 [(9, .int (zI k)), (8, .int (zI ((-6)))), (6, .long (zL 0)), (5, .int (zI on)), (4, .int (zI 0)), (3, .int (zI 0)), (2, .int (zI 0)), (1, .int (zI (τ 7))), (0, .ref (a 0))] → W p l e (headSpec wsL_areMeters ({ frames := 4, cells := 0, slots := 0, locals := 91 } : Room)).room s m ([.ref (a 0)] : List Value).toArray below meth c s.heap [] 0 0 (MQ below (kS (some (.int (zI 1)))) ([.ref (a 0)] : List Value).toArray s 0 0 (fun _ => False)) (F0 m 26 ls []) := by
    intro n
    induction n with
    | zero => intro k on n0 hms; exact absurd hms (Nat.not_lt_zero _)
    | succ n ih =>
      intro k on n0 hms i1 i2 i3 ls hl
      have ih26 := ih
      clear ih
      refine lv_iload hx hb dL_areMeters_26 (lv_at hl 0 rfl) ?_
      refine lv_aload_n hx hb dL_areMeters_28 rfl (lv_at hl 8 rfl) ?_
      refine x_iconst hx hb dL_areMeters_29 ?_
      refine x_callVR (As := [.int (zI 3)]) (rest := [.int (zI k)]) S hK (p_count_3 l D cs a τ pd ln (by exact hG)) (cwV 1 hts gL_areMeters_X6_count rfl rfl rfl (by decide +kernel) ⟨(Nat.le_of_ble_eq_true rfl), (Nat.le_of_ble_eq_true rfl)⟩) (PW_rc hK hW) hW rfl hl.1 (Nat.le_of_ble_eq_true rfl) dL_areMeters_30 ⟨Nat.zero_le _, Nat.zero_le _⟩ ?_
      refine x_icmp_ge (tgt := 64) hx hb dL_areMeters_33 (by decide) (by omega) (by omega) (fun c_33 => ?_) (fun c_33 => ?_)
      · have eon : on = onC τ (τ 8).toNat := by rw [i3, show n0 = (τ 8).toNat by omega]
        refine x_iconst hx hb dL_areMeters_64 ?_
        refine lv_istore (lv' := [(9, .int (zI 0)), (8, .int (zI ((-6)))), (6, .long (zL 0)), (5, .int (zI on)), (4, .int (zI 0)), (3, .int (zI 0)), (2, .int (zI 0)), (1, .int (zI (τ 7))), (0, .ref (a 0))]) hx hb dL_areMeters_65 hl (by decide) rfl (fun ls hl => ?_)
        have lp67 : ∀ (n : Nat) (me : Int) (wo : Int) (mo : Int) (co : Int) (tu : Int) (br : Int) (n1 : Nat), (τ 7 - me).toNat < n → (me = (n1 : Int)) → (me ≤ τ 7) → (br = brC τ n1) → (tu = trS τ n1) → (co = blC τ n1) → ((me = 0 ∧ wo = -6 ∧ mo = 0) ∨ (1 ≤ me ∧ wo = mmC τ (n1 - 1) ∧ mo = msA τ wo ∧ 0 ≤ wo ∧ wo < τ 7)) → ∀ (ls : Array Slot), lv_has ls 19 [(9, .int (zI me)), (8, .int (zI wo)), (6, .long (zL mo)), (5, .int (zI on)), (4, .int (zI co)), (3, .int (zI tu)), (2, .int (zI br)), (1, .int (zI (τ 7))), (0, .ref (a 0))] → W p l e (headSpec wsL_areMeters ({ frames := 4, cells := 0, slots := 0, locals := 91 } : Room)).room s m ([.ref (a 0)] : List Value).toArray below meth c s.heap [] 0 0 (MQ below (kS (some (.int (zI 1)))) ([.ref (a 0)] : List Value).toArray s 0 0 (fun _ => False)) (F0 m 67 ls []) := by
          intro n
          induction n with
          | zero => intro me wo mo co tu br n1 hms; exact absurd hms (Nat.not_lt_zero _)
          | succ n ih =>
            intro me wo mo co tu br n1 hms j1 j2 j3 j4 j5 j6 ls hl
            have ih67 := ih
            clear ih
            refine lv_iload hx hb dL_areMeters_67 (lv_at hl 0 rfl) ?_
            refine lv_iload_n hx hb dL_areMeters_69 rfl (lv_at hl 7 rfl) ?_
            refine x_icmp_ge (tgt := 607) hx hb dL_areMeters_70 (by decide) (by omega) (by omega) (fun c_70 => ?_) (fun c_70 => ?_)
            · have ebr : br = brC τ (τ 7).toNat := by rw [j3, show n1 = (τ 7).toNat by omega]
              have etu : tu = trS τ (τ 7).toNat := by rw [j4, show n1 = (τ 7).toNat by omega]
              have eco : co = blC τ (τ 7).toNat := by rw [j5, show n1 = (τ 7).toNat by omega]
              have ewo : worA τ = wo := by unfold worA; rcases j6 with ⟨z1, z2, z3⟩ | ⟨z1, z2, z3, z4, z5⟩; (rw [if_pos (by omega), z2]); (rw [if_neg (by omega), z2, show (τ 7 - 1).toNat = n1 - 1 by omega])
              refine lv_iload_n hx hb dL_areMeters_607 rfl (lv_at hl 7 rfl) ?_
              refine x_bipush hx hb dL_areMeters_608 (by decide +kernel) ?_
              refine x_icmp_gt (tgt := 688) hx hb dL_areMeters_610 (by decide) (by omega) (by omega) (fun c_610 => ?_) (fun c_610 => ?_)
              · exfalso; omega
              · refine lv_aload_n hx hb dL_areMeters_613 rfl (lv_at hl 8 rfl) ?_
                refine x_iconst hx hb dL_areMeters_614 ?_
                refine x_callVR (As := [.int (zI 4)]) (rest := []) S hK (p_count_4 l D cs a τ pd ln (by exact hG)) (cwV 1 hts gL_areMeters_X6_count rfl rfl rfl (by decide +kernel) ⟨(Nat.le_of_ble_eq_true rfl), (Nat.le_of_ble_eq_true rfl)⟩) (PW_rc hK hW) hW rfl hl.1 (Nat.le_of_ble_eq_true rfl) dL_areMeters_615 ⟨Nat.zero_le _, Nat.zero_le _⟩ ?_
                refine lv_iload hx hb dL_areMeters_618 (lv_at hl 3 rfl) ?_
                refine x_icmp_neE (tgt := 688) hx hb dL_areMeters_620 (by decide) (by omega) ?_
                refine lv_aload_n hx hb dL_areMeters_623 rfl (lv_at hl 8 rfl) ?_
                refine x_iconst hx hb dL_areMeters_624 ?_
                refine x_callVR (As := [.int (zI 5)]) (rest := []) S hK (p_count_5 l D cs a τ pd ln (by exact hG)) (cwV 1 hts gL_areMeters_X6_count rfl rfl rfl (by decide +kernel) ⟨(Nat.le_of_ble_eq_true rfl), (Nat.le_of_ble_eq_true rfl)⟩) (PW_rc hK hW) hW rfl hl.1 (Nat.le_of_ble_eq_true rfl) dL_areMeters_625 ⟨Nat.zero_le _, Nat.zero_le _⟩ ?_
                refine lv_iload_n hx hb dL_areMeters_628 rfl (lv_at hl 6 rfl) ?_
                refine x_icmp_neE (tgt := 688) hx hb dL_areMeters_629 (by decide) (by omega) ?_
                refine lv_aload_n hx hb dL_areMeters_632 rfl (lv_at hl 8 rfl) ?_
                refine x_bipush hx hb dL_areMeters_633 (by decide +kernel) ?_
                refine x_callVR (As := [.int (zI 6)]) (rest := []) S hK (p_count_6 l D cs a τ pd ln (by exact hG)) (cwV 1 hts gL_areMeters_X6_count rfl rfl rfl (by decide +kernel) ⟨(Nat.le_of_ble_eq_true rfl), (Nat.le_of_ble_eq_true rfl)⟩) (PW_rc hK hW) hW rfl hl.1 (Nat.le_of_ble_eq_true rfl) dL_areMeters_635 ⟨Nat.zero_le _, Nat.zero_le _⟩ ?_
                refine lv_iload_n hx hb dL_areMeters_638 rfl (lv_at hl 5 rfl) ?_
                refine x_icmp_neE (tgt := 688) hx hb dL_areMeters_639 (by decide) (by omega) ?_
                refine lv_aload_n hx hb dL_areMeters_642 rfl (lv_at hl 8 rfl) ?_
                refine x_bipush hx hb dL_areMeters_643 (by decide +kernel) ?_
                refine x_callVR (As := [.int (zI 7)]) (rest := []) S hK (p_count_7 l D cs a τ pd ln (by exact hG)) (cwV 1 hts gL_areMeters_X6_count rfl rfl rfl (by decide +kernel) ⟨(Nat.le_of_ble_eq_true rfl), (Nat.le_of_ble_eq_true rfl)⟩) (PW_rc hK hW) hW rfl hl.1 (Nat.le_of_ble_eq_true rfl) dL_areMeters_645 ⟨Nat.zero_le _, Nat.zero_le _⟩ ?_
                refine lv_iload hx hb dL_areMeters_648 (lv_at hl 4 rfl) ?_
                refine x_icmp_neE (tgt := 688) hx hb dL_areMeters_650 (by decide) (by omega) ?_
                refine lv_aload_n hx hb dL_areMeters_653 rfl (lv_at hl 8 rfl) ?_
                refine x_callVR (As := []) (rest := []) S hK (p_worst l D cs a τ pd ln (by exact hG)) (cwV 0 hts gL_areMeters_X6_worst rfl rfl rfl (by decide +kernel) ⟨(Nat.le_of_ble_eq_true rfl), (Nat.le_of_ble_eq_true rfl)⟩) (PW_rc hK hW) hW rfl hl.1 (Nat.le_of_ble_eq_true rfl) dL_areMeters_654 ⟨Nat.zero_le _, Nat.zero_le _⟩ ?_
                refine lv_iload hx hb dL_areMeters_657 (lv_at hl 1 rfl) ?_
                refine x_icmp_neE (tgt := 688) hx hb dL_areMeters_659 (by decide) (by omega) ?_
                refine lv_aload_n hx hb dL_areMeters_662 rfl (lv_at hl 8 rfl) ?_
                refine lv_iload_n hx hb dL_areMeters_663 rfl (lv_at hl 7 rfl) ?_
                refine x_iconst hx hb dL_areMeters_664 ?_
                refine x_callVR (As := [.int (zI (τ 7)), .int (zI 0)]) (rest := []) S hK (p_of_bad l D cs a τ pd ln (τ 7) 0 (by exact hG) (by omega) (by omega)) (cwV 2 hts gL_areMeters_X6_of rfl rfl rfl (by decide +kernel) ⟨(Nat.le_of_ble_eq_true rfl), (Nat.le_of_ble_eq_true rfl)⟩) (PW_rc hK hW) hW rfl hl.1 (Nat.le_of_ble_eq_true rfl) dL_areMeters_665 ⟨Nat.zero_le _, Nat.zero_le _⟩ ?_
                refine x_iconst hx hb dL_areMeters_668 ?_
                refine x_icmp_ne (tgt := 688) hx hb dL_areMeters_669 (by decide) (by decide) (by decide) (fun q => absurd q (by decide)) (fun _ => ?_)
                refine lv_aload_n hx hb dL_areMeters_672 rfl (lv_at hl 8 rfl) ?_
                refine lv_iload_n hx hb dL_areMeters_673 rfl (lv_at hl 7 rfl) ?_
                refine x_callVR (As := [.int (zI (τ 7))]) (rest := []) S hK (p_misses_bad l D cs a τ pd ln (τ 7) (by exact hG) (by omega) (by omega)) (cwV 1 hts gL_areMeters_X6_misses rfl rfl rfl (by decide +kernel) ⟨(Nat.le_of_ble_eq_true rfl), (Nat.le_of_ble_eq_true rfl)⟩) (PW_rc hK hW) hW rfl hl.1 (Nat.le_of_ble_eq_true rfl) dL_areMeters_674 ⟨Nat.zero_le _, Nat.zero_le _⟩ ?_
                refine x_ldc2 (v := -1) hx hb hown (hts (.constantLong RL 36 (zL (-1))) (by decide +kernel)) dL_areMeters_677 ?_
                refine x_lcmp_ne (tgt := 688) hx hb dL_areMeters_680 dL_areMeters_681 (by decide) (by decide) (by decide) (fun q => absurd q (by decide)) (fun _ => ?_)
                refine x_iconst hx hb dL_areMeters_684 ?_
                refine lv_goto (tgt := 689) hx hb dL_areMeters_685 (by decide) ?_
                exact x_zretR hx hb hr hlocks (by first | rfl | omega) (by first | decide | exact Or.inl rfl | exact Or.inr rfl | (split <;> simp)) rfl dL_areMeters_689
            · refine lv_iload hx hb dL_areMeters_73 (lv_at hl 0 rfl) ?_
              refine x_bipush hx hb dL_areMeters_75 (by decide +kernel) ?_
              refine x_icmp_ge (tgt := 607) hx hb dL_areMeters_77 (by decide) (by omega) (by omega) (fun c_77 => ?_) (fun c_77 => ?_)
              · exfalso; omega
              · have hm := gd_m hG (k := me) (by omega)
                have hm0 := gd_0 hG (k := me) (by omega)
                have hfd : 0 ≤ fedC τ me ∧ fedC τ me < 2147483648 := fedC_rng (gd_g hG).1 (o := me) (by omega)
                refine lv_aload_n hx hb dL_areMeters_80 rfl (lv_at hl 8 rfl) ?_
                refine lv_iload hx hb dL_areMeters_81 (lv_at hl 0 rfl) ?_
                refine x_iconst hx hb dL_areMeters_83 ?_
                refine x_callVR (As := [.int (zI me), .int (zI 0)]) (rest := []) S hK (p_of_0 l D cs a τ pd ln me (by exact hG) (by omega)) (cwV 2 hts gL_areMeters_X6_of rfl rfl rfl (by decide +kernel) ⟨(Nat.le_of_ble_eq_true rfl), (Nat.le_of_ble_eq_true rfl)⟩) (PW_rc hK hW) hW rfl hl.1 (Nat.le_of_ble_eq_true rfl) dL_areMeters_84 ⟨Nat.zero_le _, Nat.zero_le _⟩ ?_
                refine lv_istore (lv' := [(10, .int (zI (τ (11 + 13 * me + 0)))), (9, .int (zI me)), (8, .int (zI wo)), (6, .long (zL mo)), (5, .int (zI on)), (4, .int (zI co)), (3, .int (zI tu)), (2, .int (zI br)), (1, .int (zI (τ 7))), (0, .ref (a 0))]) hx hb dL_areMeters_87 hl (by decide) rfl (fun ls hl => ?_)
                refine lv_aload_n hx hb dL_areMeters_89 rfl (lv_at hl 9 rfl) ?_
                refine lv_iload hx hb dL_areMeters_90 (lv_at hl 1 rfl) ?_
                refine x_callVR (As := [.int (zI me)]) (rest := []) S hK (p_fed l D cs a τ pd ln me (by exact hG) (by omega)) (cwV 1 hts gL_areMeters_X6_fed rfl rfl rfl (by decide +kernel) ⟨(Nat.le_of_ble_eq_true rfl), (Nat.le_of_ble_eq_true rfl)⟩) (PW_rc hK hW) hW rfl hl.1 (Nat.le_of_ble_eq_true rfl) dL_areMeters_92 ⟨Nat.zero_le _, Nat.zero_le _⟩ ?_
                refine lv_istore (lv' := [(11, .int (zI (fedC τ me))), (10, .int (zI (τ (11 + 13 * me + 0)))), (9, .int (zI me)), (8, .int (zI wo)), (6, .long (zL mo)), (5, .int (zI on)), (4, .int (zI co)), (3, .int (zI tu)), (2, .int (zI br)), (1, .int (zI (τ 7))), (0, .ref (a 0))]) hx hb dL_areMeters_95 hl (by decide) rfl (fun ls hl => ?_)
                refine x_iconst hx hb dL_areMeters_97 ?_
                refine lv_istore (lv' := [(12, .int (zI 0)), (11, .int (zI (fedC τ me))), (10, .int (zI (τ (11 + 13 * me + 0)))), (9, .int (zI me)), (8, .int (zI wo)), (6, .long (zL mo)), (5, .int (zI on)), (4, .int (zI co)), (3, .int (zI tu)), (2, .int (zI br)), (1, .int (zI (τ 7))), (0, .ref (a 0))]) hx hb dL_areMeters_98 hl (by decide) rfl (fun ls hl => ?_)
                refine x_iconst hx hb dL_areMeters_100 ?_
                refine lv_istore (lv' := [(13, .int (zI 0)), (12, .int (zI 0)), (11, .int (zI (fedC τ me))), (10, .int (zI (τ (11 + 13 * me + 0)))), (9, .int (zI me)), (8, .int (zI wo)), (6, .long (zL mo)), (5, .int (zI on)), (4, .int (zI co)), (3, .int (zI tu)), (2, .int (zI br)), (1, .int (zI (τ 7))), (0, .ref (a 0))]) hx hb dL_areMeters_101 hl (by decide) rfl (fun ls hl => ?_)
                refine lv_aload_n hx hb dL_areMeters_103 rfl (lv_at hl 12 rfl) ?_
                refine lv_iload hx hb dL_areMeters_104 (lv_at hl 4 rfl) ?_
                refine x_iconst hx hb dL_areMeters_106 ?_
                refine x_callVR (As := [.int (zI me), .int (zI 4)]) (rest := []) S hK (p_of_4 l D cs a τ pd ln me (by exact hG) (by omega)) (cwV 2 hts gL_areMeters_X6_of rfl rfl rfl (by decide +kernel) ⟨(Nat.le_of_ble_eq_true rfl), (Nat.le_of_ble_eq_true rfl)⟩) (PW_rc hK hW) hW rfl hl.1 (Nat.le_of_ble_eq_true rfl) dL_areMeters_107 ⟨Nat.zero_le _, Nat.zero_le _⟩ ?_
                refine lv_aload_n hx hb dL_areMeters_110 rfl (lv_at hl 12 rfl) ?_
                refine lv_iload hx hb dL_areMeters_111 (lv_at hl 4 rfl) ?_
                refine x_iconst hx hb dL_areMeters_113 ?_
                refine x_callVR (As := [.int (zI me), .int (zI 5)]) (rest := [.int (zI (τ (11 + 13 * me + 3)))]) S hK (p_of_5 l D cs a τ pd ln me (by exact hG) (by omega)) (cwV 2 hts gL_areMeters_X6_of rfl rfl rfl (by decide +kernel) ⟨(Nat.le_of_ble_eq_true rfl), (Nat.le_of_ble_eq_true rfl)⟩) (PW_rc hK hW) hW rfl hl.1 (Nat.le_of_ble_eq_true rfl) dL_areMeters_114 ⟨Nat.zero_le _, Nat.zero_le _⟩ ?_
                refine x_iadd hx hb dL_areMeters_117 ?_
                refine lv_istore (lv' := [(14, .int (zI ((τ (11 + 13 * me + 3)) + (τ (11 + 13 * me + 4))))), (13, .int (zI 0)), (12, .int (zI 0)), (11, .int (zI (fedC τ me))), (10, .int (zI (τ (11 + 13 * me + 0)))), (9, .int (zI me)), (8, .int (zI wo)), (6, .long (zL mo)), (5, .int (zI on)), (4, .int (zI co)), (3, .int (zI tu)), (2, .int (zI br)), (1, .int (zI (τ 7))), (0, .ref (a 0))]) hx hb dL_areMeters_118 hl (by decide) rfl (fun ls hl => ?_)
                refine x_iconst hx hb dL_areMeters_120 ?_
                refine lv_istore (lv' := [(15, .int (zI 0)), (14, .int (zI ((τ (11 + 13 * me + 3)) + (τ (11 + 13 * me + 4))))), (13, .int (zI 0)), (12, .int (zI 0)), (11, .int (zI (fedC τ me))), (10, .int (zI (τ (11 + 13 * me + 0)))), (9, .int (zI me)), (8, .int (zI wo)), (6, .long (zL mo)), (5, .int (zI on)), (4, .int (zI co)), (3, .int (zI tu)), (2, .int (zI br)), (1, .int (zI (τ 7))), (0, .ref (a 0))]) hx hb dL_areMeters_121 hl (by decide) rfl (fun ls hl => ?_)
                have lp123 : ∀ (n : Nat) (k : Int) (pw : Int) (n2 : Nat), (τ 8 - k).toNat < n → (k = (n2 : Int)) → (k ≤ τ 8) → (pw = cpw τ me n2) → ∀ (ls : Array Slot), lv_has ls 19 [(15, .int (zI k)), (14, .int (zI ((τ (11 + 13 * me + 3)) + (τ (11 + 13 * me + 4))))), (13, .int (zI 0)), (12, .int (zI pw)), (11, .int (zI (fedC τ me))), (10, .int (zI (τ (11 + 13 * me + 0)))), (9, .int (zI me)), (8, .int (zI wo)), (6, .long (zL mo)), (5, .int (zI on)), (4, .int (zI co)), (3, .int (zI tu)), (2, .int (zI br)), (1, .int (zI (τ 7))), (0, .ref (a 0))] → W p l e (headSpec wsL_areMeters ({ frames := 4, cells := 0, slots := 0, locals := 91 } : Room)).room s m ([.ref (a 0)] : List Value).toArray below meth c s.heap [] 0 0 (MQ below (kS (some (.int (zI 1)))) ([.ref (a 0)] : List Value).toArray s 0 0 (fun _ => False)) (F0 m 123 ls []) := by
                  intro n
                  induction n with
                  | zero => intro k pw n2 hms; exact absurd hms (Nat.not_lt_zero _)
                  | succ n ih =>
                    intro k pw n2 hms a1 a2 a3 ls hl
                    have ih123 := ih
                    clear ih
                    refine lv_iload hx hb dL_areMeters_123 (lv_at hl 0 rfl) ?_
                    refine lv_aload_n hx hb dL_areMeters_125 rfl (lv_at hl 14 rfl) ?_
                    refine x_iconst hx hb dL_areMeters_126 ?_
                    refine x_callVR (As := [.int (zI 3)]) (rest := [.int (zI k)]) S hK (p_count_3 l D cs a τ pd ln (by exact hG)) (cwV 1 hts gL_areMeters_X6_count rfl rfl rfl (by decide +kernel) ⟨(Nat.le_of_ble_eq_true rfl), (Nat.le_of_ble_eq_true rfl)⟩) (PW_rc hK hW) hW rfl hl.1 (Nat.le_of_ble_eq_true rfl) dL_areMeters_127 ⟨Nat.zero_le _, Nat.zero_le _⟩ ?_
                    refine x_icmp_ge (tgt := 189) hx hb dL_areMeters_130 (by decide) (by omega) (by omega) (fun c_130 => ?_) (fun c_130 => ?_)
                    · have ecp : pw = cpow τ me := by rw [a3, show n2 = (τ 8).toNat by omega]; rfl
                      have hcp := cpow_rng (gd_g hG).1 me
                      refine x_iconst hx hb dL_areMeters_189 ?_
                      refine lv_iload hx hb dL_areMeters_190 (lv_at hl 6 rfl) ?_
                      refine x_ishl hx hb (by omega) (by omega) dL_areMeters_192 ?_
                      refine lv_istore (lv' := [(15, .int (zI (shI 1 me))), (14, .int (zI ((τ (11 + 13 * me + 3)) + (τ (11 + 13 * me + 4))))), (13, .int (zI 0)), (12, .int (zI pw)), (11, .int (zI (fedC τ me))), (10, .int (zI (τ (11 + 13 * me + 0)))), (9, .int (zI me)), (8, .int (zI wo)), (6, .long (zL mo)), (5, .int (zI on)), (4, .int (zI co)), (3, .int (zI tu)), (2, .int (zI br)), (1, .int (zI (τ 7))), (0, .ref (a 0))]) hx hb dL_areMeters_193 hl (by decide) rfl (fun ls hl => ?_)
                      refine lv_iload hx hb dL_areMeters_195 (lv_at hl 6 rfl) ?_
                      refine x_iconst hx hb dL_areMeters_197 ?_
                      refine x_iadd hx hb dL_areMeters_198 ?_
                      refine lv_istore (lv' := [(16, .int (zI (me + 1))), (15, .int (zI (shI 1 me))), (14, .int (zI ((τ (11 + 13 * me + 3)) + (τ (11 + 13 * me + 4))))), (13, .int (zI 0)), (12, .int (zI pw)), (11, .int (zI (fedC τ me))), (10, .int (zI (τ (11 + 13 * me + 0)))), (9, .int (zI me)), (8, .int (zI wo)), (6, .long (zL mo)), (5, .int (zI on)), (4, .int (zI co)), (3, .int (zI tu)), (2, .int (zI br)), (1, .int (zI (τ 7))), (0, .ref (a 0))]) hx hb dL_areMeters_199 hl (by decide) rfl (fun ls hl => ?_)
                      have lp201 : ∀ (n : Nat) (q : Int) (se : Int) (be : Int) (n3 : Nat), (τ 7 - q).toNat < n → (q = me + 1 + (n3 : Int)) → (q ≤ τ 7) → (se = fdC τ me n3) → (be = tbC τ me n3) → ∀ (ls : Array Slot), lv_has ls 19 [(16, .int (zI q)), (15, .int (zI se)), (14, .int (zI ((τ (11 + 13 * me + 3)) + (τ (11 + 13 * me + 4))))), (13, .int (zI be)), (12, .int (zI pw)), (11, .int (zI (fedC τ me))), (10, .int (zI (τ (11 + 13 * me + 0)))), (9, .int (zI me)), (8, .int (zI wo)), (6, .long (zL mo)), (5, .int (zI on)), (4, .int (zI co)), (3, .int (zI tu)), (2, .int (zI br)), (1, .int (zI (τ 7))), (0, .ref (a 0))] → W p l e (headSpec wsL_areMeters ({ frames := 4, cells := 0, slots := 0, locals := 91 } : Room)).room s m ([.ref (a 0)] : List Value).toArray below meth c s.heap [] 0 0 (MQ below (kS (some (.int (zI 1)))) ([.ref (a 0)] : List Value).toArray s 0 0 (fun _ => False)) (F0 m 201 ls []) := by
                        intro n
                        induction n with
                        | zero => intro q se be n3 hms; exact absurd hms (Nat.not_lt_zero _)
                        | succ n ih =>
                          intro q se be n3 hms b1 b2 b3 b4 ls hl
                          have ih201 := ih
                          clear ih
                          refine lv_iload hx hb dL_areMeters_201 (lv_at hl 0 rfl) ?_
                          refine lv_iload_n hx hb dL_areMeters_203 rfl (lv_at hl 14 rfl) ?_
                          refine x_icmp_ge (tgt := 297) hx hb dL_areMeters_204 (by decide) (by omega) (by omega) (fun c_204 => ?_) (fun c_204 => ?_)
                          · have ese : se = fedC τ me := by rw [b3]; show fdC τ me n3 = fdC τ me (τ 7 - me - 1).toNat; rw [show n3 = (τ 7 - me - 1).toNat by omega]
                            have ebe : be = tbC τ me (τ 7 - me - 1).toNat := by rw [b4, show n3 = (τ 7 - me - 1).toNat by omega]
                            have elg : lagA τ me = be - (τ (11 + 13 * me + 3) + τ (11 + 13 * me + 4)) + 10000000 := by rw [ebe]; rfl
                            have hkk := gd_k hG (k := me) (by omega)
                            have hwk := wkA_r hG (k := me) (by omega)
                            have hbr : 0 ≤ br := by rw [j3]; exact brC_nn _ _
                            refine lv_iload hx hb dL_areMeters_297 (lv_at hl 7 rfl) ?_
                            refine x_if_ne (tgt := 312) hx hb dL_areMeters_299 (by decide) (by omega) (fun c_299 => ?_) (fun c_299 => ?_)
                            · refine lv_iload hx hb dL_areMeters_312 (lv_at hl 6 rfl) ?_
                              refine x_if_lt (tgt := 440) hx hb dL_areMeters_314 (by decide) (by omega) (fun c_314 => ?_) (fun c_314 => ?_)
                              · exfalso; omega
                              · refine lv_iload hx hb dL_areMeters_317 (lv_at hl 6 rfl) ?_
                                refine lv_iload hx hb dL_areMeters_319 (lv_at hl 7 rfl) ?_
                                refine x_icmp_ge (tgt := 440) hx hb dL_areMeters_321 (by decide) (by omega) (by omega) (fun c_321 => ?_) (fun c_321 => ?_)
                                · exfalso; omega
                                · refine lv_aload_n hx hb dL_areMeters_324 rfl (lv_at hl 15 rfl) ?_
                                  refine lv_iload hx hb dL_areMeters_325 (lv_at hl 7 rfl) ?_
                                  refine x_iconst hx hb dL_areMeters_327 ?_
                                  refine x_callVR (As := [.int (zI me), .int (zI 1)]) (rest := []) S hK (p_of_1 l D cs a τ pd ln me (by exact hG) (by omega)) (cwV 2 hts gL_areMeters_X6_of rfl rfl rfl (by decide +kernel) ⟨(Nat.le_of_ble_eq_true rfl), (Nat.le_of_ble_eq_true rfl)⟩) (PW_rc hK hW) hW rfl hl.1 (Nat.le_of_ble_eq_true rfl) dL_areMeters_328 ⟨Nat.zero_le _, Nat.zero_le _⟩ ?_
                                  refine lv_iload hx hb dL_areMeters_331 (lv_at hl 4 rfl) ?_
                                  refine x_icmp_neE (tgt := 440) hx hb dL_areMeters_333 (by decide) (by omega) ?_
                                  refine lv_iload hx hb dL_areMeters_336 (lv_at hl 5 rfl) ?_
                                  refine lv_iload hx hb dL_areMeters_338 (lv_at hl 1 rfl) ?_
                                  refine x_icmp_neE (tgt := 440) hx hb dL_areMeters_340 (by decide) (by omega) ?_
                                  refine lv_aload_n hx hb dL_areMeters_343 rfl (lv_at hl 15 rfl) ?_
                                  refine lv_iload hx hb dL_areMeters_344 (lv_at hl 7 rfl) ?_
                                  refine x_iconst hx hb dL_areMeters_346 ?_
                                  refine x_callVR (As := [.int (zI me), .int (zI 2)]) (rest := []) S hK (p_of_2 l D cs a τ pd ln me (by exact hG) (by omega)) (cwV 2 hts gL_areMeters_X6_of rfl rfl rfl (by decide +kernel) ⟨(Nat.le_of_ble_eq_true rfl), (Nat.le_of_ble_eq_true rfl)⟩) (PW_rc hK hW) hW rfl hl.1 (Nat.le_of_ble_eq_true rfl) dL_areMeters_347 ⟨Nat.zero_le _, Nat.zero_le _⟩ ?_
                                  refine x_if_lt (tgt := 440) hx hb dL_areMeters_350 (by decide) (by omega) (fun c_350 => ?_) (fun c_350 => ?_)
                                  · exfalso; omega
                                  · refine lv_aload_n hx hb dL_areMeters_353 rfl (lv_at hl 15 rfl) ?_
                                    refine lv_iload hx hb dL_areMeters_354 (lv_at hl 7 rfl) ?_
                                    refine x_iconst hx hb dL_areMeters_356 ?_
                                    refine x_callVR (As := [.int (zI me), .int (zI 2)]) (rest := []) S hK (p_of_2 l D cs a τ pd ln me (by exact hG) (by omega)) (cwV 2 hts gL_areMeters_X6_of rfl rfl rfl (by decide +kernel) ⟨(Nat.le_of_ble_eq_true rfl), (Nat.le_of_ble_eq_true rfl)⟩) (PW_rc hK hW) hW rfl hl.1 (Nat.le_of_ble_eq_true rfl) dL_areMeters_357 ⟨Nat.zero_le _, Nat.zero_le _⟩ ?_
                                    refine x_sipush hx hb dL_areMeters_360 (by decide +kernel) ?_
                                    refine x_icmp_ge (tgt := 440) hx hb dL_areMeters_363 (by decide) (by omega) (by omega) (fun c_363 => ?_) (fun c_363 => ?_)
                                    · exfalso; omega
                                    · refine lv_aload_n hx hb dL_areMeters_366 rfl (lv_at hl 15 rfl) ?_
                                      refine lv_iload hx hb dL_areMeters_367 (lv_at hl 7 rfl) ?_
                                      refine x_iconst hx hb dL_areMeters_369 ?_
                                      refine x_callVR (As := [.int (zI me), .int (zI 3)]) (rest := []) S hK (p_of_3 l D cs a τ pd ln me (by exact hG) (by omega)) (cwV 2 hts gL_areMeters_X6_of rfl rfl rfl (by decide +kernel) ⟨(Nat.le_of_ble_eq_true rfl), (Nat.le_of_ble_eq_true rfl)⟩) (PW_rc hK hW) hW rfl hl.1 (Nat.le_of_ble_eq_true rfl) dL_areMeters_370 ⟨Nat.zero_le _, Nat.zero_le _⟩ ?_
                                      refine x_bipush hx hb dL_areMeters_373 (by decide +kernel) ?_
                                      refine x_icmp_lt (tgt := 440) hx hb dL_areMeters_375 (by decide) (by omega) (by omega) (fun c_375 => ?_) (fun c_375 => ?_)
                                      · exfalso; omega
                                      · refine lv_aload_n hx hb dL_areMeters_378 rfl (lv_at hl 15 rfl) ?_
                                        refine lv_iload hx hb dL_areMeters_379 (lv_at hl 7 rfl) ?_
                                        refine x_iconst hx hb dL_areMeters_381 ?_
                                        refine x_callVR (As := [.int (zI me), .int (zI 3)]) (rest := []) S hK (p_of_3 l D cs a τ pd ln me (by exact hG) (by omega)) (cwV 2 hts gL_areMeters_X6_of rfl rfl rfl (by decide +kernel) ⟨(Nat.le_of_ble_eq_true rfl), (Nat.le_of_ble_eq_true rfl)⟩) (PW_rc hK hW) hW rfl hl.1 (Nat.le_of_ble_eq_true rfl) dL_areMeters_382 ⟨Nat.zero_le _, Nat.zero_le _⟩ ?_
                                        refine x_sipush hx hb dL_areMeters_385 (by decide +kernel) ?_
                                        refine x_icmp_gt (tgt := 440) hx hb dL_areMeters_388 (by decide) (by omega) (by omega) (fun c_388 => ?_) (fun c_388 => ?_)
                                        · exfalso; omega
                                        · refine lv_aload_n hx hb dL_areMeters_391 rfl (lv_at hl 15 rfl) ?_
                                          refine lv_iload hx hb dL_areMeters_392 (lv_at hl 7 rfl) ?_
                                          refine x_bipush hx hb dL_areMeters_394 (by decide +kernel) ?_
                                          refine x_callVR (As := [.int (zI me), .int (zI 7)]) (rest := []) S hK (p_of_7 l D cs a τ pd ln me (by exact hG) (by omega)) (cwV 2 hts gL_areMeters_X6_of rfl rfl rfl (by decide +kernel) ⟨(Nat.le_of_ble_eq_true rfl), (Nat.le_of_ble_eq_true rfl)⟩) (PW_rc hK hW) hW rfl hl.1 (Nat.le_of_ble_eq_true rfl) dL_areMeters_396 ⟨Nat.zero_le _, Nat.zero_le _⟩ ?_
                                          refine x_if_le (tgt := 440) hx hb dL_areMeters_399 (by decide) (by omega) (fun c_399 => ?_) (fun c_399 => ?_)
                                          · exfalso; omega
                                          · refine lv_aload_n hx hb dL_areMeters_402 rfl (lv_at hl 15 rfl) ?_
                                            refine lv_iload hx hb dL_areMeters_403 (lv_at hl 7 rfl) ?_
                                            refine x_bipush hx hb dL_areMeters_405 (by decide +kernel) ?_
                                            refine x_callVR (As := [.int (zI me), .int (zI 7)]) (rest := []) S hK (p_of_7 l D cs a τ pd ln me (by exact hG) (by omega)) (cwV 2 hts gL_areMeters_X6_of rfl rfl rfl (by decide +kernel) ⟨(Nat.le_of_ble_eq_true rfl), (Nat.le_of_ble_eq_true rfl)⟩) (PW_rc hK hW) hW rfl hl.1 (Nat.le_of_ble_eq_true rfl) dL_areMeters_407 ⟨Nat.zero_le _, Nat.zero_le _⟩ ?_
                                            refine lv_aload_n hx hb dL_areMeters_410 rfl (lv_at hl 15 rfl) ?_
                                            refine x_bipush hx hb dL_areMeters_411 (by decide +kernel) ?_
                                            refine x_callVR (As := [.int (zI 8)]) (rest := [.int (zI (τ (11 + 13 * me + 6)))]) S hK (p_count_8 l D cs a τ pd ln (by exact hG)) (cwV 1 hts gL_areMeters_X6_count rfl rfl rfl (by decide +kernel) ⟨(Nat.le_of_ble_eq_true rfl), (Nat.le_of_ble_eq_true rfl)⟩) (PW_rc hK hW) hW rfl hl.1 (Nat.le_of_ble_eq_true rfl) dL_areMeters_413 ⟨Nat.zero_le _, Nat.zero_le _⟩ ?_
                                            refine x_icmp_gt (tgt := 440) hx hb dL_areMeters_416 (by decide) (by omega) (by omega) (fun c_416 => ?_) (fun c_416 => ?_)
                                            · exfalso; omega
                                            · refine lv_aload_n hx hb dL_areMeters_419 rfl (lv_at hl 15 rfl) ?_
                                              refine lv_iload hx hb dL_areMeters_420 (lv_at hl 7 rfl) ?_
                                              refine x_callVR (As := [.int (zI me)]) (rest := []) S hK (p_lags l D cs a τ pd ln me (by exact hG) (by omega)) (cwV 1 hts gL_areMeters_X6_lags rfl rfl rfl (by decide +kernel) ⟨(Nat.le_of_ble_eq_true rfl), (Nat.le_of_ble_eq_true rfl)⟩) (PW_rc hK hW) hW rfl hl.1 (Nat.le_of_ble_eq_true rfl) dL_areMeters_422 ⟨Nat.zero_le _, Nat.zero_le _⟩ ?_
                                              refine lv_iload hx hb dL_areMeters_425 (lv_at hl 3 rfl) ?_
                                              refine lv_iload hx hb dL_areMeters_427 (lv_at hl 2 rfl) ?_
                                              refine x_isub hx hb dL_areMeters_429 ?_
                                              refine x_ldc (v := 10000000) hx hb hown (hts (.constant RL 27 (zI 10000000)) (by decide +kernel)) dL_areMeters_430 ?_
                                              refine x_iadd hx hb dL_areMeters_432 ?_
                                              refine x_icmp_neE (tgt := 440) hx hb dL_areMeters_433 (by decide) (by exact elg) ?_
                                              refine x_iconst hx hb dL_areMeters_436 ?_
                                              refine lv_goto (tgt := 441) hx hb dL_areMeters_437 (by decide) ?_
                                              refine lv_istore (lv' := [(16, .int (zI 1)), (15, .int (zI se)), (14, .int (zI ((τ (11 + 13 * me + 3)) + (τ (11 + 13 * me + 4))))), (13, .int (zI be)), (12, .int (zI pw)), (11, .int (zI (fedC τ me))), (10, .int (zI (τ (11 + 13 * me + 0)))), (9, .int (zI me)), (8, .int (zI wo)), (6, .long (zL mo)), (5, .int (zI on)), (4, .int (zI co)), (3, .int (zI tu)), (2, .int (zI br)), (1, .int (zI (τ 7))), (0, .ref (a 0))]) hx hb dL_areMeters_441 hl (by decide) rfl (fun ls hl => ?_)
                                              refine lv_iload hx hb dL_areMeters_443 (lv_at hl 0 rfl) ?_
                                              refine x_if_eq (tgt := 507) hx hb dL_areMeters_445 (by decide) (by decide) (fun q => absurd q (by decide)) (fun _ => ?_)
                                              refine lv_aload_n hx hb dL_areMeters_448 rfl (lv_at hl 15 rfl) ?_
                                              refine lv_iload hx hb dL_areMeters_449 (lv_at hl 7 rfl) ?_
                                              refine x_iconst hx hb dL_areMeters_451 ?_
                                              refine x_callVR (As := [.int (zI me), .int (zI 3)]) (rest := []) S hK (p_of_3 l D cs a τ pd ln me (by exact hG) (by omega)) (cwV 2 hts gL_areMeters_X6_of rfl rfl rfl (by decide +kernel) ⟨(Nat.le_of_ble_eq_true rfl), (Nat.le_of_ble_eq_true rfl)⟩) (PW_rc hK hW) hW rfl hl.1 (Nat.le_of_ble_eq_true rfl) dL_areMeters_452 ⟨Nat.zero_le _, Nat.zero_le _⟩ ?_
                                              refine x_sipush hx hb dL_areMeters_455 (by decide +kernel) ?_
                                              refine x_icmp_ne (tgt := 477) hx hb dL_areMeters_458 (by decide) (by omega) (by omega) (fun c_458 => ?_) (fun c_458 => ?_)
                                              · refine lv_aload_n hx hb dL_areMeters_477 rfl (lv_at hl 15 rfl) ?_
                                                refine lv_iload hx hb dL_areMeters_478 (lv_at hl 7 rfl) ?_
                                                refine x_bipush hx hb dL_areMeters_480 (by decide +kernel) ?_
                                                refine x_callVR (As := [.int (zI me), .int (zI 10)]) (rest := []) S hK (p_of_10 l D cs a τ pd ln me (by exact hG) (by omega)) (cwV 2 hts gL_areMeters_X6_of rfl rfl rfl (by decide +kernel) ⟨(Nat.le_of_ble_eq_true rfl), (Nat.le_of_ble_eq_true rfl)⟩) (PW_rc hK hW) hW rfl hl.1 (Nat.le_of_ble_eq_true rfl) dL_areMeters_482 ⟨Nat.zero_le _, Nat.zero_le _⟩ ?_
                                                refine x_iconst hx hb dL_areMeters_485 ?_
                                                refine x_icmp_lt (tgt := 507) hx hb dL_areMeters_486 (by decide) (by omega) (by omega) (fun c_486 => ?_) (fun c_486 => ?_)
                                                · exfalso; omega
                                                · refine lv_aload_n hx hb dL_areMeters_489 rfl (lv_at hl 15 rfl) ?_
                                                  refine lv_iload hx hb dL_areMeters_490 (lv_at hl 7 rfl) ?_
                                                  refine x_bipush hx hb dL_areMeters_492 (by decide +kernel) ?_
                                                  refine x_callVR (As := [.int (zI me), .int (zI 10)]) (rest := []) S hK (p_of_10 l D cs a τ pd ln me (by exact hG) (by omega)) (cwV 2 hts gL_areMeters_X6_of rfl rfl rfl (by decide +kernel) ⟨(Nat.le_of_ble_eq_true rfl), (Nat.le_of_ble_eq_true rfl)⟩) (PW_rc hK hW) hW rfl hl.1 (Nat.le_of_ble_eq_true rfl) dL_areMeters_494 ⟨Nat.zero_le _, Nat.zero_le _⟩ ?_
                                                  refine x_sipush hx hb dL_areMeters_497 (by decide +kernel) ?_
                                                  refine x_icmp_gt (tgt := 507) hx hb dL_areMeters_500 (by decide) (by omega) (by omega) (fun c_500 => ?_) (fun c_500 => ?_)
                                                  · exfalso; omega
                                                  · refine x_iconst hx hb dL_areMeters_503 ?_
                                                    refine lv_goto (tgt := 508) hx hb dL_areMeters_504 (by decide) ?_
                                                    refine lv_istore (lv' := [(16, .int (zI 1)), (15, .int (zI se)), (14, .int (zI ((τ (11 + 13 * me + 3)) + (τ (11 + 13 * me + 4))))), (13, .int (zI be)), (12, .int (zI pw)), (11, .int (zI (fedC τ me))), (10, .int (zI (τ (11 + 13 * me + 0)))), (9, .int (zI me)), (8, .int (zI wo)), (6, .long (zL mo)), (5, .int (zI on)), (4, .int (zI co)), (3, .int (zI tu)), (2, .int (zI br)), (1, .int (zI (τ 7))), (0, .ref (a 0))]) hx hb dL_areMeters_508 hl (by decide) rfl (fun ls hl => ?_)
                                                    refine lv_iload hx hb dL_areMeters_510 (lv_at hl 0 rfl) ?_
                                                    refine x_if_ne (tgt := 517) hx hb dL_areMeters_512 (by decide) (by decide) (fun _ => ?_) (fun q => absurd q (by decide))
                                                    refine lv_aload_n hx hb dL_areMeters_517 rfl (lv_at hl 15 rfl) ?_
                                                    refine lv_iload hx hb dL_areMeters_518 (lv_at hl 7 rfl) ?_
                                                    refine x_callVR (As := [.int (zI me)]) (rest := []) S hK (p_misses l D cs a τ pd ln me (by exact hG) (by omega)) (cwV 1 hts gL_areMeters_X6_misses rfl rfl rfl (by decide +kernel) ⟨(Nat.le_of_ble_eq_true rfl), (Nat.le_of_ble_eq_true rfl)⟩) (PW_rc hK hW) hW rfl hl.1 (Nat.le_of_ble_eq_true rfl) dL_areMeters_520 ⟨Nat.zero_le _, Nat.zero_le _⟩ ?_
                                                    have hms := msA_rng hG (k := me) (by omega)
                                                    have hmo : -100000000000000 ≤ mo ∧ mo < 100000000000000 := by rcases j6 with ⟨z1, z2, z3⟩ | ⟨z1, z2, z3, z4, z5⟩; omega; (rw [z3]; exact msA_rng hG ⟨z4, z5⟩)
                                                    refine lv_lstore (lv' := [(17, .long (zL (msA τ me))), (16, .int (zI 1)), (15, .int (zI se)), (14, .int (zI ((τ (11 + 13 * me + 3)) + (τ (11 + 13 * me + 4))))), (13, .int (zI be)), (12, .int (zI pw)), (11, .int (zI (fedC τ me))), (10, .int (zI (τ (11 + 13 * me + 0)))), (9, .int (zI me)), (8, .int (zI wo)), (6, .long (zL mo)), (5, .int (zI on)), (4, .int (zI co)), (3, .int (zI tu)), (2, .int (zI br)), (1, .int (zI (τ 7))), (0, .ref (a 0))]) hx hb dL_areMeters_523 hl (by decide) rfl (fun ls hl => ?_)
                                                    refine lv_iload hx hb dL_areMeters_525 (lv_at hl 8 rfl) ?_
                                                    refine x_if_eq (tgt := 538) hx hb dL_areMeters_527 (by decide) (by omega) (fun c_527 => ?_) (fun c_527 => ?_)
                                                    · exfalso; omega
                                                    · refine lv_lload hx hb dL_areMeters_530 (lv_at hl 0 rfl) ?_
                                                      refine lv_lload hx hb dL_areMeters_532 (lv_at hl 10 rfl) ?_
                                                      refine x_lcmp_le (tgt := 543) hx hb dL_areMeters_534 dL_areMeters_535 (by decide) (by omega) (by omega) (fun c_534 => ?_) (fun c_534 => ?_)
                                                      · refine lv_iload hx hb dL_areMeters_543 (lv_at hl 9 rfl) ?_
                                                        refine lv_istore (lv' := [(8, .int (zI wo)), (17, .long (zL (msA τ me))), (16, .int (zI 1)), (15, .int (zI se)), (14, .int (zI ((τ (11 + 13 * me + 3)) + (τ (11 + 13 * me + 4))))), (13, .int (zI be)), (12, .int (zI pw)), (11, .int (zI (fedC τ me))), (10, .int (zI (τ (11 + 13 * me + 0)))), (9, .int (zI me)), (6, .long (zL mo)), (5, .int (zI on)), (4, .int (zI co)), (3, .int (zI tu)), (2, .int (zI br)), (1, .int (zI (τ 7))), (0, .ref (a 0))]) hx hb dL_areMeters_545 hl (by decide) rfl (fun ls hl => ?_)
                                                        refine lv_iload hx hb dL_areMeters_547 (lv_at hl 9 rfl) ?_
                                                        refine x_if_eq (tgt := 560) hx hb dL_areMeters_549 (by decide) (by omega) (fun c_549 => ?_) (fun c_549 => ?_)
                                                        · exfalso; omega
                                                        · refine lv_lload hx hb dL_areMeters_552 (lv_at hl 1 rfl) ?_
                                                          refine lv_lload hx hb dL_areMeters_554 (lv_at hl 10 rfl) ?_
                                                          refine x_lcmp_le (tgt := 565) hx hb dL_areMeters_556 dL_areMeters_557 (by decide) (by omega) (by omega) (fun c_556 => ?_) (fun c_556 => ?_)
                                                          · refine lv_lload hx hb dL_areMeters_565 (lv_at hl 10 rfl) ?_
                                                            refine lv_lstore (lv' := [(6, .long (zL mo)), (8, .int (zI wo)), (17, .long (zL (msA τ me))), (16, .int (zI 1)), (15, .int (zI se)), (14, .int (zI ((τ (11 + 13 * me + 3)) + (τ (11 + 13 * me + 4))))), (13, .int (zI be)), (12, .int (zI pw)), (11, .int (zI (fedC τ me))), (10, .int (zI (τ (11 + 13 * me + 0)))), (9, .int (zI me)), (5, .int (zI on)), (4, .int (zI co)), (3, .int (zI tu)), (2, .int (zI br)), (1, .int (zI (τ 7))), (0, .ref (a 0))]) hx hb dL_areMeters_567 hl (by decide) rfl (fun ls hl => ?_)
                                                            refine lv_iload_n hx hb dL_areMeters_569 rfl (lv_at hl 14 rfl) ?_
                                                            refine lv_aload_n hx hb dL_areMeters_570 rfl (lv_at hl 16 rfl) ?_
                                                            refine lv_iload hx hb dL_areMeters_571 (lv_at hl 10 rfl) ?_
                                                            refine x_bipush hx hb dL_areMeters_573 (by decide +kernel) ?_
                                                            refine x_callVR (As := [.int (zI me), .int (zI 8)]) (rest := [.int (zI br)]) S hK (p_of_8 l D cs a τ pd ln me (by exact hG) (by omega)) (cwV 2 hts gL_areMeters_X6_of rfl rfl rfl (by decide +kernel) ⟨(Nat.le_of_ble_eq_true rfl), (Nat.le_of_ble_eq_true rfl)⟩) (PW_rc hK hW) hW rfl hl.1 (Nat.le_of_ble_eq_true rfl) dL_areMeters_575 ⟨Nat.zero_le _, Nat.zero_le _⟩ ?_
                                                            refine lv_iload hx hb dL_areMeters_578 (lv_at hl 10 rfl) ?_
                                                            refine x_ishl hx hb (by omega) (by omega) dL_areMeters_580 ?_
                                                            refine x_ior hx hb (by omega) (by exact shI_nn (by omega)) dL_areMeters_581 ?_
                                                            refine lv_istore_n (lv' := [(2, .int (zI (orI br (shI (τ (11 + 13 * me + 7)) me)))), (6, .long (zL mo)), (8, .int (zI wo)), (17, .long (zL (msA τ me))), (16, .int (zI 1)), (15, .int (zI se)), (14, .int (zI ((τ (11 + 13 * me + 3)) + (τ (11 + 13 * me + 4))))), (13, .int (zI be)), (12, .int (zI pw)), (11, .int (zI (fedC τ me))), (10, .int (zI (τ (11 + 13 * me + 0)))), (9, .int (zI me)), (5, .int (zI on)), (4, .int (zI co)), (3, .int (zI tu)), (1, .int (zI (τ 7))), (0, .ref (a 0))]) hx hb dL_areMeters_582 rfl hl (by decide) rfl (fun ls hl => ?_)
                                                            refine lv_iload_n hx hb dL_areMeters_583 rfl (lv_at hl 14 rfl) ?_
                                                            refine lv_iload hx hb dL_areMeters_584 (lv_at hl 6 rfl) ?_
                                                            refine x_iadd hx hb dL_areMeters_586 ?_
                                                            refine lv_istore_n (lv' := [(3, .int (zI (tu + ((τ (11 + 13 * me + 3)) + (τ (11 + 13 * me + 4)))))), (2, .int (zI (orI br (shI (τ (11 + 13 * me + 7)) me)))), (6, .long (zL mo)), (8, .int (zI wo)), (17, .long (zL (msA τ me))), (16, .int (zI 1)), (15, .int (zI se)), (14, .int (zI ((τ (11 + 13 * me + 3)) + (τ (11 + 13 * me + 4))))), (13, .int (zI be)), (12, .int (zI pw)), (11, .int (zI (fedC τ me))), (10, .int (zI (τ (11 + 13 * me + 0)))), (9, .int (zI me)), (5, .int (zI on)), (4, .int (zI co)), (1, .int (zI (τ 7))), (0, .ref (a 0))]) hx hb dL_areMeters_587 rfl hl (by decide) rfl (fun ls hl => ?_)
                                                            refine lv_iload hx hb dL_areMeters_588 (lv_at hl 14 rfl) ?_
                                                            refine lv_aload_n hx hb dL_areMeters_590 rfl (lv_at hl 16 rfl) ?_
                                                            refine lv_iload hx hb dL_areMeters_591 (lv_at hl 12 rfl) ?_
                                                            refine x_bipush hx hb dL_areMeters_593 (by decide +kernel) ?_
                                                            refine x_callVR (As := [.int (zI me), .int (zI 9)]) (rest := [.int (zI co)]) S hK (p_of_9 l D cs a τ pd ln me (by exact hG) (by omega)) (cwV 2 hts gL_areMeters_X6_of rfl rfl rfl (by decide +kernel) ⟨(Nat.le_of_ble_eq_true rfl), (Nat.le_of_ble_eq_true rfl)⟩) (PW_rc hK hW) hW rfl hl.1 (Nat.le_of_ble_eq_true rfl) dL_areMeters_595 ⟨Nat.zero_le _, Nat.zero_le _⟩ ?_
                                                            refine x_iadd hx hb dL_areMeters_598 ?_
                                                            refine lv_istore (lv' := [(4, .int (zI (co + (τ (11 + 13 * me + 8))))), (3, .int (zI (tu + ((τ (11 + 13 * me + 3)) + (τ (11 + 13 * me + 4)))))), (2, .int (zI (orI br (shI (τ (11 + 13 * me + 7)) me)))), (6, .long (zL mo)), (8, .int (zI wo)), (17, .long (zL (msA τ me))), (16, .int (zI 1)), (15, .int (zI se)), (14, .int (zI ((τ (11 + 13 * me + 3)) + (τ (11 + 13 * me + 4))))), (13, .int (zI be)), (12, .int (zI pw)), (11, .int (zI (fedC τ me))), (10, .int (zI (τ (11 + 13 * me + 0)))), (9, .int (zI me)), (5, .int (zI on)), (1, .int (zI (τ 7))), (0, .ref (a 0))]) hx hb dL_areMeters_599 hl (by decide) rfl (fun ls hl => ?_)
                                                            refine x_iinc (x := me) (lv' := [(9, .int (zI (me + 1))), (4, .int (zI (co + (τ (11 + 13 * me + 8))))), (3, .int (zI (tu + ((τ (11 + 13 * me + 3)) + (τ (11 + 13 * me + 4)))))), (2, .int (zI (orI br (shI (τ (11 + 13 * me + 7)) me)))), (6, .long (zL mo)), (8, .int (zI wo)), (17, .long (zL (msA τ me))), (16, .int (zI 1)), (15, .int (zI se)), (14, .int (zI ((τ (11 + 13 * me + 3)) + (τ (11 + 13 * me + 4))))), (13, .int (zI be)), (12, .int (zI pw)), (11, .int (zI (fedC τ me))), (10, .int (zI (τ (11 + 13 * me + 0)))), (5, .int (zI on)), (1, .int (zI (τ 7))), (0, .ref (a 0))]) hx hb dL_areMeters_601 hl (k := 13) rfl (by decide) rfl (fun ls hl => ?_)
                                                            refine lv_goto (tgt := 67) hx hb dL_areMeters_604 (by decide) ?_
                                                            exact ih67 (me + 1) wo mo (co + (τ (11 + 13 * me + 8))) (tu + ((τ (11 + 13 * me + 3)) + (τ (11 + 13 * me + 4)))) (orI br (shI (τ (11 + 13 * me + 7)) me)) (n1 + 1) (by omega) (by omega) (by omega) (by rw [j3]; exact brC_s j1 rfl hm.2.2.2) (by rw [j4, j1]; rfl) (by rw [j5, j1]; rfl) (by first | (right; exact ⟨by omega, by rw [show n1 + 1 - 1 = 0 by omega]; show me = 0; omega, rfl, by omega, by omega⟩) | (rcases j6 with j6 | ⟨ja, jb, jc, jd, je⟩; (exfalso; omega); (right; exact ⟨by omega, by rw [show n1 + 1 - 1 = n1 - 1 + 1 by omega]; exact mm_y (by omega) (by rw [← jb, ← jc]; omega), rfl, by omega, by omega⟩)) | (rcases j6 with j6 | ⟨ja, jb, jc, jd, je⟩; (exfalso; omega); (right; exact ⟨by omega, by rw [show n1 + 1 - 1 = n1 - 1 + 1 by omega, jb]; exact mm_n (m := me) (by omega) (by rw [← jb, ← jc]; omega), jc, jd, je⟩))) ls (lv_sub hl [0, 5, 4, 14, 1, 2, 3, 15, 16] rfl)
                                                          · exfalso; omega
                                                      · refine lv_iload hx hb dL_areMeters_538 (lv_at hl 8 rfl) ?_
                                                        refine lv_goto (tgt := 545) hx hb dL_areMeters_540 (by decide) ?_
                                                        refine lv_istore (lv' := [(8, .int (zI me)), (17, .long (zL (msA τ me))), (16, .int (zI 1)), (15, .int (zI se)), (14, .int (zI ((τ (11 + 13 * me + 3)) + (τ (11 + 13 * me + 4))))), (13, .int (zI be)), (12, .int (zI pw)), (11, .int (zI (fedC τ me))), (10, .int (zI (τ (11 + 13 * me + 0)))), (9, .int (zI me)), (6, .long (zL mo)), (5, .int (zI on)), (4, .int (zI co)), (3, .int (zI tu)), (2, .int (zI br)), (1, .int (zI (τ 7))), (0, .ref (a 0))]) hx hb dL_areMeters_545 hl (by decide) rfl (fun ls hl => ?_)
                                                        refine lv_iload hx hb dL_areMeters_547 (lv_at hl 9 rfl) ?_
                                                        refine x_if_eq (tgt := 560) hx hb dL_areMeters_549 (by decide) (by omega) (fun c_549 => ?_) (fun c_549 => ?_)
                                                        · exfalso; omega
                                                        · refine lv_lload hx hb dL_areMeters_552 (lv_at hl 1 rfl) ?_
                                                          refine lv_lload hx hb dL_areMeters_554 (lv_at hl 10 rfl) ?_
                                                          refine x_lcmp_le (tgt := 565) hx hb dL_areMeters_556 dL_areMeters_557 (by decide) (by omega) (by omega) (fun c_556 => ?_) (fun c_556 => ?_)
                                                          · exfalso; omega
                                                          · refine lv_lload hx hb dL_areMeters_560 (lv_at hl 1 rfl) ?_
                                                            refine lv_goto (tgt := 567) hx hb dL_areMeters_562 (by decide) ?_
                                                            refine lv_lstore (lv' := [(6, .long (zL (msA τ me))), (8, .int (zI me)), (17, .long (zL (msA τ me))), (16, .int (zI 1)), (15, .int (zI se)), (14, .int (zI ((τ (11 + 13 * me + 3)) + (τ (11 + 13 * me + 4))))), (13, .int (zI be)), (12, .int (zI pw)), (11, .int (zI (fedC τ me))), (10, .int (zI (τ (11 + 13 * me + 0)))), (9, .int (zI me)), (5, .int (zI on)), (4, .int (zI co)), (3, .int (zI tu)), (2, .int (zI br)), (1, .int (zI (τ 7))), (0, .ref (a 0))]) hx hb dL_areMeters_567 hl (by decide) rfl (fun ls hl => ?_)
                                                            refine lv_iload_n hx hb dL_areMeters_569 rfl (lv_at hl 14 rfl) ?_
                                                            refine lv_aload_n hx hb dL_areMeters_570 rfl (lv_at hl 16 rfl) ?_
                                                            refine lv_iload hx hb dL_areMeters_571 (lv_at hl 10 rfl) ?_
                                                            refine x_bipush hx hb dL_areMeters_573 (by decide +kernel) ?_
                                                            refine x_callVR (As := [.int (zI me), .int (zI 8)]) (rest := [.int (zI br)]) S hK (p_of_8 l D cs a τ pd ln me (by exact hG) (by omega)) (cwV 2 hts gL_areMeters_X6_of rfl rfl rfl (by decide +kernel) ⟨(Nat.le_of_ble_eq_true rfl), (Nat.le_of_ble_eq_true rfl)⟩) (PW_rc hK hW) hW rfl hl.1 (Nat.le_of_ble_eq_true rfl) dL_areMeters_575 ⟨Nat.zero_le _, Nat.zero_le _⟩ ?_
                                                            refine lv_iload hx hb dL_areMeters_578 (lv_at hl 10 rfl) ?_
                                                            refine x_ishl hx hb (by omega) (by omega) dL_areMeters_580 ?_
                                                            refine x_ior hx hb (by omega) (by exact shI_nn (by omega)) dL_areMeters_581 ?_
                                                            refine lv_istore_n (lv' := [(2, .int (zI (orI br (shI (τ (11 + 13 * me + 7)) me)))), (6, .long (zL (msA τ me))), (8, .int (zI me)), (17, .long (zL (msA τ me))), (16, .int (zI 1)), (15, .int (zI se)), (14, .int (zI ((τ (11 + 13 * me + 3)) + (τ (11 + 13 * me + 4))))), (13, .int (zI be)), (12, .int (zI pw)), (11, .int (zI (fedC τ me))), (10, .int (zI (τ (11 + 13 * me + 0)))), (9, .int (zI me)), (5, .int (zI on)), (4, .int (zI co)), (3, .int (zI tu)), (1, .int (zI (τ 7))), (0, .ref (a 0))]) hx hb dL_areMeters_582 rfl hl (by decide) rfl (fun ls hl => ?_)
                                                            refine lv_iload_n hx hb dL_areMeters_583 rfl (lv_at hl 14 rfl) ?_
                                                            refine lv_iload hx hb dL_areMeters_584 (lv_at hl 6 rfl) ?_
                                                            refine x_iadd hx hb dL_areMeters_586 ?_
                                                            refine lv_istore_n (lv' := [(3, .int (zI (tu + ((τ (11 + 13 * me + 3)) + (τ (11 + 13 * me + 4)))))), (2, .int (zI (orI br (shI (τ (11 + 13 * me + 7)) me)))), (6, .long (zL (msA τ me))), (8, .int (zI me)), (17, .long (zL (msA τ me))), (16, .int (zI 1)), (15, .int (zI se)), (14, .int (zI ((τ (11 + 13 * me + 3)) + (τ (11 + 13 * me + 4))))), (13, .int (zI be)), (12, .int (zI pw)), (11, .int (zI (fedC τ me))), (10, .int (zI (τ (11 + 13 * me + 0)))), (9, .int (zI me)), (5, .int (zI on)), (4, .int (zI co)), (1, .int (zI (τ 7))), (0, .ref (a 0))]) hx hb dL_areMeters_587 rfl hl (by decide) rfl (fun ls hl => ?_)
                                                            refine lv_iload hx hb dL_areMeters_588 (lv_at hl 14 rfl) ?_
                                                            refine lv_aload_n hx hb dL_areMeters_590 rfl (lv_at hl 16 rfl) ?_
                                                            refine lv_iload hx hb dL_areMeters_591 (lv_at hl 12 rfl) ?_
                                                            refine x_bipush hx hb dL_areMeters_593 (by decide +kernel) ?_
                                                            refine x_callVR (As := [.int (zI me), .int (zI 9)]) (rest := [.int (zI co)]) S hK (p_of_9 l D cs a τ pd ln me (by exact hG) (by omega)) (cwV 2 hts gL_areMeters_X6_of rfl rfl rfl (by decide +kernel) ⟨(Nat.le_of_ble_eq_true rfl), (Nat.le_of_ble_eq_true rfl)⟩) (PW_rc hK hW) hW rfl hl.1 (Nat.le_of_ble_eq_true rfl) dL_areMeters_595 ⟨Nat.zero_le _, Nat.zero_le _⟩ ?_
                                                            refine x_iadd hx hb dL_areMeters_598 ?_
                                                            refine lv_istore (lv' := [(4, .int (zI (co + (τ (11 + 13 * me + 8))))), (3, .int (zI (tu + ((τ (11 + 13 * me + 3)) + (τ (11 + 13 * me + 4)))))), (2, .int (zI (orI br (shI (τ (11 + 13 * me + 7)) me)))), (6, .long (zL (msA τ me))), (8, .int (zI me)), (17, .long (zL (msA τ me))), (16, .int (zI 1)), (15, .int (zI se)), (14, .int (zI ((τ (11 + 13 * me + 3)) + (τ (11 + 13 * me + 4))))), (13, .int (zI be)), (12, .int (zI pw)), (11, .int (zI (fedC τ me))), (10, .int (zI (τ (11 + 13 * me + 0)))), (9, .int (zI me)), (5, .int (zI on)), (1, .int (zI (τ 7))), (0, .ref (a 0))]) hx hb dL_areMeters_599 hl (by decide) rfl (fun ls hl => ?_)
                                                            refine x_iinc (x := me) (lv' := [(9, .int (zI (me + 1))), (4, .int (zI (co + (τ (11 + 13 * me + 8))))), (3, .int (zI (tu + ((τ (11 + 13 * me + 3)) + (τ (11 + 13 * me + 4)))))), (2, .int (zI (orI br (shI (τ (11 + 13 * me + 7)) me)))), (6, .long (zL (msA τ me))), (8, .int (zI me)), (17, .long (zL (msA τ me))), (16, .int (zI 1)), (15, .int (zI se)), (14, .int (zI ((τ (11 + 13 * me + 3)) + (τ (11 + 13 * me + 4))))), (13, .int (zI be)), (12, .int (zI pw)), (11, .int (zI (fedC τ me))), (10, .int (zI (τ (11 + 13 * me + 0)))), (5, .int (zI on)), (1, .int (zI (τ 7))), (0, .ref (a 0))]) hx hb dL_areMeters_601 hl (k := 13) rfl (by decide) rfl (fun ls hl => ?_)
                                                            refine lv_goto (tgt := 67) hx hb dL_areMeters_604 (by decide) ?_
                                                            exact ih67 (me + 1) me (msA τ me) (co + (τ (11 + 13 * me + 8))) (tu + ((τ (11 + 13 * me + 3)) + (τ (11 + 13 * me + 4)))) (orI br (shI (τ (11 + 13 * me + 7)) me)) (n1 + 1) (by omega) (by omega) (by omega) (by rw [j3]; exact brC_s j1 rfl hm.2.2.2) (by rw [j4, j1]; rfl) (by rw [j5, j1]; rfl) (by first | (right; exact ⟨by omega, by rw [show n1 + 1 - 1 = 0 by omega]; show me = 0; omega, rfl, by omega, by omega⟩) | (rcases j6 with j6 | ⟨ja, jb, jc, jd, je⟩; (exfalso; omega); (right; exact ⟨by omega, by rw [show n1 + 1 - 1 = n1 - 1 + 1 by omega]; exact mm_y (by omega) (by rw [← jb, ← jc]; omega), rfl, by omega, by omega⟩)) | (rcases j6 with j6 | ⟨ja, jb, jc, jd, je⟩; (exfalso; omega); (right; exact ⟨by omega, by rw [show n1 + 1 - 1 = n1 - 1 + 1 by omega, jb]; exact mm_n (m := me) (by omega) (by rw [← jb, ← jc]; omega), jc, jd, je⟩))) ls (lv_sub hl [0, 5, 4, 14, 1, 2, 3, 15, 16] rfl)
                                              · refine lv_aload_n hx hb dL_areMeters_461 rfl (lv_at hl 15 rfl) ?_
                                                refine lv_iload hx hb dL_areMeters_462 (lv_at hl 7 rfl) ?_
                                                refine x_bipush hx hb dL_areMeters_464 (by decide +kernel) ?_
                                                refine x_callVR (As := [.int (zI me), .int (zI 10)]) (rest := []) S hK (p_of_10 l D cs a τ pd ln me (by exact hG) (by omega)) (cwV 2 hts gL_areMeters_X6_of rfl rfl rfl (by decide +kernel) ⟨(Nat.le_of_ble_eq_true rfl), (Nat.le_of_ble_eq_true rfl)⟩) (PW_rc hK hW) hW rfl hl.1 (Nat.le_of_ble_eq_true rfl) dL_areMeters_466 ⟨Nat.zero_le _, Nat.zero_le _⟩ ?_
                                                refine x_bipush hx hb dL_areMeters_469 (by decide +kernel) ?_
                                                refine x_icmp_neE (tgt := 507) hx hb dL_areMeters_471 (by decide) (by omega) ?_
                                                refine lv_goto (tgt := 503) hx hb dL_areMeters_474 (by decide) ?_
                                                refine x_iconst hx hb dL_areMeters_503 ?_
                                                refine lv_goto (tgt := 508) hx hb dL_areMeters_504 (by decide) ?_
                                                refine lv_istore (lv' := [(16, .int (zI 1)), (15, .int (zI se)), (14, .int (zI ((τ (11 + 13 * me + 3)) + (τ (11 + 13 * me + 4))))), (13, .int (zI be)), (12, .int (zI pw)), (11, .int (zI (fedC τ me))), (10, .int (zI (τ (11 + 13 * me + 0)))), (9, .int (zI me)), (8, .int (zI wo)), (6, .long (zL mo)), (5, .int (zI on)), (4, .int (zI co)), (3, .int (zI tu)), (2, .int (zI br)), (1, .int (zI (τ 7))), (0, .ref (a 0))]) hx hb dL_areMeters_508 hl (by decide) rfl (fun ls hl => ?_)
                                                refine lv_iload hx hb dL_areMeters_510 (lv_at hl 0 rfl) ?_
                                                refine x_if_ne (tgt := 517) hx hb dL_areMeters_512 (by decide) (by decide) (fun _ => ?_) (fun q => absurd q (by decide))
                                                refine lv_aload_n hx hb dL_areMeters_517 rfl (lv_at hl 15 rfl) ?_
                                                refine lv_iload hx hb dL_areMeters_518 (lv_at hl 7 rfl) ?_
                                                refine x_callVR (As := [.int (zI me)]) (rest := []) S hK (p_misses l D cs a τ pd ln me (by exact hG) (by omega)) (cwV 1 hts gL_areMeters_X6_misses rfl rfl rfl (by decide +kernel) ⟨(Nat.le_of_ble_eq_true rfl), (Nat.le_of_ble_eq_true rfl)⟩) (PW_rc hK hW) hW rfl hl.1 (Nat.le_of_ble_eq_true rfl) dL_areMeters_520 ⟨Nat.zero_le _, Nat.zero_le _⟩ ?_
                                                have hms := msA_rng hG (k := me) (by omega)
                                                have hmo : -100000000000000 ≤ mo ∧ mo < 100000000000000 := by rcases j6 with ⟨z1, z2, z3⟩ | ⟨z1, z2, z3, z4, z5⟩; omega; (rw [z3]; exact msA_rng hG ⟨z4, z5⟩)
                                                refine lv_lstore (lv' := [(17, .long (zL (msA τ me))), (16, .int (zI 1)), (15, .int (zI se)), (14, .int (zI ((τ (11 + 13 * me + 3)) + (τ (11 + 13 * me + 4))))), (13, .int (zI be)), (12, .int (zI pw)), (11, .int (zI (fedC τ me))), (10, .int (zI (τ (11 + 13 * me + 0)))), (9, .int (zI me)), (8, .int (zI wo)), (6, .long (zL mo)), (5, .int (zI on)), (4, .int (zI co)), (3, .int (zI tu)), (2, .int (zI br)), (1, .int (zI (τ 7))), (0, .ref (a 0))]) hx hb dL_areMeters_523 hl (by decide) rfl (fun ls hl => ?_)
                                                refine lv_iload hx hb dL_areMeters_525 (lv_at hl 8 rfl) ?_
                                                refine x_if_eq (tgt := 538) hx hb dL_areMeters_527 (by decide) (by omega) (fun c_527 => ?_) (fun c_527 => ?_)
                                                · exfalso; omega
                                                · refine lv_lload hx hb dL_areMeters_530 (lv_at hl 0 rfl) ?_
                                                  refine lv_lload hx hb dL_areMeters_532 (lv_at hl 10 rfl) ?_
                                                  refine x_lcmp_le (tgt := 543) hx hb dL_areMeters_534 dL_areMeters_535 (by decide) (by omega) (by omega) (fun c_534 => ?_) (fun c_534 => ?_)
                                                  · refine lv_iload hx hb dL_areMeters_543 (lv_at hl 9 rfl) ?_
                                                    refine lv_istore (lv' := [(8, .int (zI wo)), (17, .long (zL (msA τ me))), (16, .int (zI 1)), (15, .int (zI se)), (14, .int (zI ((τ (11 + 13 * me + 3)) + (τ (11 + 13 * me + 4))))), (13, .int (zI be)), (12, .int (zI pw)), (11, .int (zI (fedC τ me))), (10, .int (zI (τ (11 + 13 * me + 0)))), (9, .int (zI me)), (6, .long (zL mo)), (5, .int (zI on)), (4, .int (zI co)), (3, .int (zI tu)), (2, .int (zI br)), (1, .int (zI (τ 7))), (0, .ref (a 0))]) hx hb dL_areMeters_545 hl (by decide) rfl (fun ls hl => ?_)
                                                    refine lv_iload hx hb dL_areMeters_547 (lv_at hl 9 rfl) ?_
                                                    refine x_if_eq (tgt := 560) hx hb dL_areMeters_549 (by decide) (by omega) (fun c_549 => ?_) (fun c_549 => ?_)
                                                    · exfalso; omega
                                                    · refine lv_lload hx hb dL_areMeters_552 (lv_at hl 1 rfl) ?_
                                                      refine lv_lload hx hb dL_areMeters_554 (lv_at hl 10 rfl) ?_
                                                      refine x_lcmp_le (tgt := 565) hx hb dL_areMeters_556 dL_areMeters_557 (by decide) (by omega) (by omega) (fun c_556 => ?_) (fun c_556 => ?_)
                                                      · refine lv_lload hx hb dL_areMeters_565 (lv_at hl 10 rfl) ?_
                                                        refine lv_lstore (lv' := [(6, .long (zL mo)), (8, .int (zI wo)), (17, .long (zL (msA τ me))), (16, .int (zI 1)), (15, .int (zI se)), (14, .int (zI ((τ (11 + 13 * me + 3)) + (τ (11 + 13 * me + 4))))), (13, .int (zI be)), (12, .int (zI pw)), (11, .int (zI (fedC τ me))), (10, .int (zI (τ (11 + 13 * me + 0)))), (9, .int (zI me)), (5, .int (zI on)), (4, .int (zI co)), (3, .int (zI tu)), (2, .int (zI br)), (1, .int (zI (τ 7))), (0, .ref (a 0))]) hx hb dL_areMeters_567 hl (by decide) rfl (fun ls hl => ?_)
                                                        refine lv_iload_n hx hb dL_areMeters_569 rfl (lv_at hl 14 rfl) ?_
                                                        refine lv_aload_n hx hb dL_areMeters_570 rfl (lv_at hl 16 rfl) ?_
                                                        refine lv_iload hx hb dL_areMeters_571 (lv_at hl 10 rfl) ?_
                                                        refine x_bipush hx hb dL_areMeters_573 (by decide +kernel) ?_
                                                        refine x_callVR (As := [.int (zI me), .int (zI 8)]) (rest := [.int (zI br)]) S hK (p_of_8 l D cs a τ pd ln me (by exact hG) (by omega)) (cwV 2 hts gL_areMeters_X6_of rfl rfl rfl (by decide +kernel) ⟨(Nat.le_of_ble_eq_true rfl), (Nat.le_of_ble_eq_true rfl)⟩) (PW_rc hK hW) hW rfl hl.1 (Nat.le_of_ble_eq_true rfl) dL_areMeters_575 ⟨Nat.zero_le _, Nat.zero_le _⟩ ?_
                                                        refine lv_iload hx hb dL_areMeters_578 (lv_at hl 10 rfl) ?_
                                                        refine x_ishl hx hb (by omega) (by omega) dL_areMeters_580 ?_
                                                        refine x_ior hx hb (by omega) (by exact shI_nn (by omega)) dL_areMeters_581 ?_
                                                        refine lv_istore_n (lv' := [(2, .int (zI (orI br (shI (τ (11 + 13 * me + 7)) me)))), (6, .long (zL mo)), (8, .int (zI wo)), (17, .long (zL (msA τ me))), (16, .int (zI 1)), (15, .int (zI se)), (14, .int (zI ((τ (11 + 13 * me + 3)) + (τ (11 + 13 * me + 4))))), (13, .int (zI be)), (12, .int (zI pw)), (11, .int (zI (fedC τ me))), (10, .int (zI (τ (11 + 13 * me + 0)))), (9, .int (zI me)), (5, .int (zI on)), (4, .int (zI co)), (3, .int (zI tu)), (1, .int (zI (τ 7))), (0, .ref (a 0))]) hx hb dL_areMeters_582 rfl hl (by decide) rfl (fun ls hl => ?_)
                                                        refine lv_iload_n hx hb dL_areMeters_583 rfl (lv_at hl 14 rfl) ?_
                                                        refine lv_iload hx hb dL_areMeters_584 (lv_at hl 6 rfl) ?_
                                                        refine x_iadd hx hb dL_areMeters_586 ?_
                                                        refine lv_istore_n (lv' := [(3, .int (zI (tu + ((τ (11 + 13 * me + 3)) + (τ (11 + 13 * me + 4)))))), (2, .int (zI (orI br (shI (τ (11 + 13 * me + 7)) me)))), (6, .long (zL mo)), (8, .int (zI wo)), (17, .long (zL (msA τ me))), (16, .int (zI 1)), (15, .int (zI se)), (14, .int (zI ((τ (11 + 13 * me + 3)) + (τ (11 + 13 * me + 4))))), (13, .int (zI be)), (12, .int (zI pw)), (11, .int (zI (fedC τ me))), (10, .int (zI (τ (11 + 13 * me + 0)))), (9, .int (zI me)), (5, .int (zI on)), (4, .int (zI co)), (1, .int (zI (τ 7))), (0, .ref (a 0))]) hx hb dL_areMeters_587 rfl hl (by decide) rfl (fun ls hl => ?_)
                                                        refine lv_iload hx hb dL_areMeters_588 (lv_at hl 14 rfl) ?_
                                                        refine lv_aload_n hx hb dL_areMeters_590 rfl (lv_at hl 16 rfl) ?_
                                                        refine lv_iload hx hb dL_areMeters_591 (lv_at hl 12 rfl) ?_
                                                        refine x_bipush hx hb dL_areMeters_593 (by decide +kernel) ?_
                                                        refine x_callVR (As := [.int (zI me), .int (zI 9)]) (rest := [.int (zI co)]) S hK (p_of_9 l D cs a τ pd ln me (by exact hG) (by omega)) (cwV 2 hts gL_areMeters_X6_of rfl rfl rfl (by decide +kernel) ⟨(Nat.le_of_ble_eq_true rfl), (Nat.le_of_ble_eq_true rfl)⟩) (PW_rc hK hW) hW rfl hl.1 (Nat.le_of_ble_eq_true rfl) dL_areMeters_595 ⟨Nat.zero_le _, Nat.zero_le _⟩ ?_
                                                        refine x_iadd hx hb dL_areMeters_598 ?_
                                                        refine lv_istore (lv' := [(4, .int (zI (co + (τ (11 + 13 * me + 8))))), (3, .int (zI (tu + ((τ (11 + 13 * me + 3)) + (τ (11 + 13 * me + 4)))))), (2, .int (zI (orI br (shI (τ (11 + 13 * me + 7)) me)))), (6, .long (zL mo)), (8, .int (zI wo)), (17, .long (zL (msA τ me))), (16, .int (zI 1)), (15, .int (zI se)), (14, .int (zI ((τ (11 + 13 * me + 3)) + (τ (11 + 13 * me + 4))))), (13, .int (zI be)), (12, .int (zI pw)), (11, .int (zI (fedC τ me))), (10, .int (zI (τ (11 + 13 * me + 0)))), (9, .int (zI me)), (5, .int (zI on)), (1, .int (zI (τ 7))), (0, .ref (a 0))]) hx hb dL_areMeters_599 hl (by decide) rfl (fun ls hl => ?_)
                                                        refine x_iinc (x := me) (lv' := [(9, .int (zI (me + 1))), (4, .int (zI (co + (τ (11 + 13 * me + 8))))), (3, .int (zI (tu + ((τ (11 + 13 * me + 3)) + (τ (11 + 13 * me + 4)))))), (2, .int (zI (orI br (shI (τ (11 + 13 * me + 7)) me)))), (6, .long (zL mo)), (8, .int (zI wo)), (17, .long (zL (msA τ me))), (16, .int (zI 1)), (15, .int (zI se)), (14, .int (zI ((τ (11 + 13 * me + 3)) + (τ (11 + 13 * me + 4))))), (13, .int (zI be)), (12, .int (zI pw)), (11, .int (zI (fedC τ me))), (10, .int (zI (τ (11 + 13 * me + 0)))), (5, .int (zI on)), (1, .int (zI (τ 7))), (0, .ref (a 0))]) hx hb dL_areMeters_601 hl (k := 13) rfl (by decide) rfl (fun ls hl => ?_)
                                                        refine lv_goto (tgt := 67) hx hb dL_areMeters_604 (by decide) ?_
                                                        exact ih67 (me + 1) wo mo (co + (τ (11 + 13 * me + 8))) (tu + ((τ (11 + 13 * me + 3)) + (τ (11 + 13 * me + 4)))) (orI br (shI (τ (11 + 13 * me + 7)) me)) (n1 + 1) (by omega) (by omega) (by omega) (by rw [j3]; exact brC_s j1 rfl hm.2.2.2) (by rw [j4, j1]; rfl) (by rw [j5, j1]; rfl) (by first | (right; exact ⟨by omega, by rw [show n1 + 1 - 1 = 0 by omega]; show me = 0; omega, rfl, by omega, by omega⟩) | (rcases j6 with j6 | ⟨ja, jb, jc, jd, je⟩; (exfalso; omega); (right; exact ⟨by omega, by rw [show n1 + 1 - 1 = n1 - 1 + 1 by omega]; exact mm_y (by omega) (by rw [← jb, ← jc]; omega), rfl, by omega, by omega⟩)) | (rcases j6 with j6 | ⟨ja, jb, jc, jd, je⟩; (exfalso; omega); (right; exact ⟨by omega, by rw [show n1 + 1 - 1 = n1 - 1 + 1 by omega, jb]; exact mm_n (m := me) (by omega) (by rw [← jb, ← jc]; omega), jc, jd, je⟩))) ls (lv_sub hl [0, 5, 4, 14, 1, 2, 3, 15, 16] rfl)
                                                      · exfalso; omega
                                                  · refine lv_iload hx hb dL_areMeters_538 (lv_at hl 8 rfl) ?_
                                                    refine lv_goto (tgt := 545) hx hb dL_areMeters_540 (by decide) ?_
                                                    refine lv_istore (lv' := [(8, .int (zI me)), (17, .long (zL (msA τ me))), (16, .int (zI 1)), (15, .int (zI se)), (14, .int (zI ((τ (11 + 13 * me + 3)) + (τ (11 + 13 * me + 4))))), (13, .int (zI be)), (12, .int (zI pw)), (11, .int (zI (fedC τ me))), (10, .int (zI (τ (11 + 13 * me + 0)))), (9, .int (zI me)), (6, .long (zL mo)), (5, .int (zI on)), (4, .int (zI co)), (3, .int (zI tu)), (2, .int (zI br)), (1, .int (zI (τ 7))), (0, .ref (a 0))]) hx hb dL_areMeters_545 hl (by decide) rfl (fun ls hl => ?_)
                                                    refine lv_iload hx hb dL_areMeters_547 (lv_at hl 9 rfl) ?_
                                                    refine x_if_eq (tgt := 560) hx hb dL_areMeters_549 (by decide) (by omega) (fun c_549 => ?_) (fun c_549 => ?_)
                                                    · exfalso; omega
                                                    · refine lv_lload hx hb dL_areMeters_552 (lv_at hl 1 rfl) ?_
                                                      refine lv_lload hx hb dL_areMeters_554 (lv_at hl 10 rfl) ?_
                                                      refine x_lcmp_le (tgt := 565) hx hb dL_areMeters_556 dL_areMeters_557 (by decide) (by omega) (by omega) (fun c_556 => ?_) (fun c_556 => ?_)
                                                      · exfalso; omega
                                                      · refine lv_lload hx hb dL_areMeters_560 (lv_at hl 1 rfl) ?_
                                                        refine lv_goto (tgt := 567) hx hb dL_areMeters_562 (by decide) ?_
                                                        refine lv_lstore (lv' := [(6, .long (zL (msA τ me))), (8, .int (zI me)), (17, .long (zL (msA τ me))), (16, .int (zI 1)), (15, .int (zI se)), (14, .int (zI ((τ (11 + 13 * me + 3)) + (τ (11 + 13 * me + 4))))), (13, .int (zI be)), (12, .int (zI pw)), (11, .int (zI (fedC τ me))), (10, .int (zI (τ (11 + 13 * me + 0)))), (9, .int (zI me)), (5, .int (zI on)), (4, .int (zI co)), (3, .int (zI tu)), (2, .int (zI br)), (1, .int (zI (τ 7))), (0, .ref (a 0))]) hx hb dL_areMeters_567 hl (by decide) rfl (fun ls hl => ?_)
                                                        refine lv_iload_n hx hb dL_areMeters_569 rfl (lv_at hl 14 rfl) ?_
                                                        refine lv_aload_n hx hb dL_areMeters_570 rfl (lv_at hl 16 rfl) ?_
                                                        refine lv_iload hx hb dL_areMeters_571 (lv_at hl 10 rfl) ?_
                                                        refine x_bipush hx hb dL_areMeters_573 (by decide +kernel) ?_
                                                        refine x_callVR (As := [.int (zI me), .int (zI 8)]) (rest := [.int (zI br)]) S hK (p_of_8 l D cs a τ pd ln me (by exact hG) (by omega)) (cwV 2 hts gL_areMeters_X6_of rfl rfl rfl (by decide +kernel) ⟨(Nat.le_of_ble_eq_true rfl), (Nat.le_of_ble_eq_true rfl)⟩) (PW_rc hK hW) hW rfl hl.1 (Nat.le_of_ble_eq_true rfl) dL_areMeters_575 ⟨Nat.zero_le _, Nat.zero_le _⟩ ?_
                                                        refine lv_iload hx hb dL_areMeters_578 (lv_at hl 10 rfl) ?_
                                                        refine x_ishl hx hb (by omega) (by omega) dL_areMeters_580 ?_
                                                        refine x_ior hx hb (by omega) (by exact shI_nn (by omega)) dL_areMeters_581 ?_
                                                        refine lv_istore_n (lv' := [(2, .int (zI (orI br (shI (τ (11 + 13 * me + 7)) me)))), (6, .long (zL (msA τ me))), (8, .int (zI me)), (17, .long (zL (msA τ me))), (16, .int (zI 1)), (15, .int (zI se)), (14, .int (zI ((τ (11 + 13 * me + 3)) + (τ (11 + 13 * me + 4))))), (13, .int (zI be)), (12, .int (zI pw)), (11, .int (zI (fedC τ me))), (10, .int (zI (τ (11 + 13 * me + 0)))), (9, .int (zI me)), (5, .int (zI on)), (4, .int (zI co)), (3, .int (zI tu)), (1, .int (zI (τ 7))), (0, .ref (a 0))]) hx hb dL_areMeters_582 rfl hl (by decide) rfl (fun ls hl => ?_)
                                                        refine lv_iload_n hx hb dL_areMeters_583 rfl (lv_at hl 14 rfl) ?_
                                                        refine lv_iload hx hb dL_areMeters_584 (lv_at hl 6 rfl) ?_
                                                        refine x_iadd hx hb dL_areMeters_586 ?_
                                                        refine lv_istore_n (lv' := [(3, .int (zI (tu + ((τ (11 + 13 * me + 3)) + (τ (11 + 13 * me + 4)))))), (2, .int (zI (orI br (shI (τ (11 + 13 * me + 7)) me)))), (6, .long (zL (msA τ me))), (8, .int (zI me)), (17, .long (zL (msA τ me))), (16, .int (zI 1)), (15, .int (zI se)), (14, .int (zI ((τ (11 + 13 * me + 3)) + (τ (11 + 13 * me + 4))))), (13, .int (zI be)), (12, .int (zI pw)), (11, .int (zI (fedC τ me))), (10, .int (zI (τ (11 + 13 * me + 0)))), (9, .int (zI me)), (5, .int (zI on)), (4, .int (zI co)), (1, .int (zI (τ 7))), (0, .ref (a 0))]) hx hb dL_areMeters_587 rfl hl (by decide) rfl (fun ls hl => ?_)
                                                        refine lv_iload hx hb dL_areMeters_588 (lv_at hl 14 rfl) ?_
                                                        refine lv_aload_n hx hb dL_areMeters_590 rfl (lv_at hl 16 rfl) ?_
                                                        refine lv_iload hx hb dL_areMeters_591 (lv_at hl 12 rfl) ?_
                                                        refine x_bipush hx hb dL_areMeters_593 (by decide +kernel) ?_
                                                        refine x_callVR (As := [.int (zI me), .int (zI 9)]) (rest := [.int (zI co)]) S hK (p_of_9 l D cs a τ pd ln me (by exact hG) (by omega)) (cwV 2 hts gL_areMeters_X6_of rfl rfl rfl (by decide +kernel) ⟨(Nat.le_of_ble_eq_true rfl), (Nat.le_of_ble_eq_true rfl)⟩) (PW_rc hK hW) hW rfl hl.1 (Nat.le_of_ble_eq_true rfl) dL_areMeters_595 ⟨Nat.zero_le _, Nat.zero_le _⟩ ?_
                                                        refine x_iadd hx hb dL_areMeters_598 ?_
                                                        refine lv_istore (lv' := [(4, .int (zI (co + (τ (11 + 13 * me + 8))))), (3, .int (zI (tu + ((τ (11 + 13 * me + 3)) + (τ (11 + 13 * me + 4)))))), (2, .int (zI (orI br (shI (τ (11 + 13 * me + 7)) me)))), (6, .long (zL (msA τ me))), (8, .int (zI me)), (17, .long (zL (msA τ me))), (16, .int (zI 1)), (15, .int (zI se)), (14, .int (zI ((τ (11 + 13 * me + 3)) + (τ (11 + 13 * me + 4))))), (13, .int (zI be)), (12, .int (zI pw)), (11, .int (zI (fedC τ me))), (10, .int (zI (τ (11 + 13 * me + 0)))), (9, .int (zI me)), (5, .int (zI on)), (1, .int (zI (τ 7))), (0, .ref (a 0))]) hx hb dL_areMeters_599 hl (by decide) rfl (fun ls hl => ?_)
                                                        refine x_iinc (x := me) (lv' := [(9, .int (zI (me + 1))), (4, .int (zI (co + (τ (11 + 13 * me + 8))))), (3, .int (zI (tu + ((τ (11 + 13 * me + 3)) + (τ (11 + 13 * me + 4)))))), (2, .int (zI (orI br (shI (τ (11 + 13 * me + 7)) me)))), (6, .long (zL (msA τ me))), (8, .int (zI me)), (17, .long (zL (msA τ me))), (16, .int (zI 1)), (15, .int (zI se)), (14, .int (zI ((τ (11 + 13 * me + 3)) + (τ (11 + 13 * me + 4))))), (13, .int (zI be)), (12, .int (zI pw)), (11, .int (zI (fedC τ me))), (10, .int (zI (τ (11 + 13 * me + 0)))), (5, .int (zI on)), (1, .int (zI (τ 7))), (0, .ref (a 0))]) hx hb dL_areMeters_601 hl (k := 13) rfl (by decide) rfl (fun ls hl => ?_)
                                                        refine lv_goto (tgt := 67) hx hb dL_areMeters_604 (by decide) ?_
                                                        exact ih67 (me + 1) me (msA τ me) (co + (τ (11 + 13 * me + 8))) (tu + ((τ (11 + 13 * me + 3)) + (τ (11 + 13 * me + 4)))) (orI br (shI (τ (11 + 13 * me + 7)) me)) (n1 + 1) (by omega) (by omega) (by omega) (by rw [j3]; exact brC_s j1 rfl hm.2.2.2) (by rw [j4, j1]; rfl) (by rw [j5, j1]; rfl) (by first | (right; exact ⟨by omega, by rw [show n1 + 1 - 1 = 0 by omega]; show me = 0; omega, rfl, by omega, by omega⟩) | (rcases j6 with j6 | ⟨ja, jb, jc, jd, je⟩; (exfalso; omega); (right; exact ⟨by omega, by rw [show n1 + 1 - 1 = n1 - 1 + 1 by omega]; exact mm_y (by omega) (by rw [← jb, ← jc]; omega), rfl, by omega, by omega⟩)) | (rcases j6 with j6 | ⟨ja, jb, jc, jd, je⟩; (exfalso; omega); (right; exact ⟨by omega, by rw [show n1 + 1 - 1 = n1 - 1 + 1 by omega, jb]; exact mm_n (m := me) (by omega) (by rw [← jb, ← jc]; omega), jc, jd, je⟩))) ls (lv_sub hl [0, 5, 4, 14, 1, 2, 3, 15, 16] rfl)
                            · refine lv_iload hx hb dL_areMeters_302 (lv_at hl 6 rfl) ?_
                              refine x_bipush hx hb dL_areMeters_304 (by decide +kernel) ?_
                              refine x_icmp_neE (tgt := 440) hx hb dL_areMeters_306 (by decide) (by omega) ?_
                              refine lv_goto (tgt := 324) hx hb dL_areMeters_309 (by decide) ?_
                              refine lv_aload_n hx hb dL_areMeters_324 rfl (lv_at hl 15 rfl) ?_
                              refine lv_iload hx hb dL_areMeters_325 (lv_at hl 7 rfl) ?_
                              refine x_iconst hx hb dL_areMeters_327 ?_
                              refine x_callVR (As := [.int (zI me), .int (zI 1)]) (rest := []) S hK (p_of_1 l D cs a τ pd ln me (by exact hG) (by omega)) (cwV 2 hts gL_areMeters_X6_of rfl rfl rfl (by decide +kernel) ⟨(Nat.le_of_ble_eq_true rfl), (Nat.le_of_ble_eq_true rfl)⟩) (PW_rc hK hW) hW rfl hl.1 (Nat.le_of_ble_eq_true rfl) dL_areMeters_328 ⟨Nat.zero_le _, Nat.zero_le _⟩ ?_
                              refine lv_iload hx hb dL_areMeters_331 (lv_at hl 4 rfl) ?_
                              refine x_icmp_neE (tgt := 440) hx hb dL_areMeters_333 (by decide) (by omega) ?_
                              refine lv_iload hx hb dL_areMeters_336 (lv_at hl 5 rfl) ?_
                              refine lv_iload hx hb dL_areMeters_338 (lv_at hl 1 rfl) ?_
                              refine x_icmp_neE (tgt := 440) hx hb dL_areMeters_340 (by decide) (by omega) ?_
                              refine lv_aload_n hx hb dL_areMeters_343 rfl (lv_at hl 15 rfl) ?_
                              refine lv_iload hx hb dL_areMeters_344 (lv_at hl 7 rfl) ?_
                              refine x_iconst hx hb dL_areMeters_346 ?_
                              refine x_callVR (As := [.int (zI me), .int (zI 2)]) (rest := []) S hK (p_of_2 l D cs a τ pd ln me (by exact hG) (by omega)) (cwV 2 hts gL_areMeters_X6_of rfl rfl rfl (by decide +kernel) ⟨(Nat.le_of_ble_eq_true rfl), (Nat.le_of_ble_eq_true rfl)⟩) (PW_rc hK hW) hW rfl hl.1 (Nat.le_of_ble_eq_true rfl) dL_areMeters_347 ⟨Nat.zero_le _, Nat.zero_le _⟩ ?_
                              refine x_if_lt (tgt := 440) hx hb dL_areMeters_350 (by decide) (by omega) (fun c_350 => ?_) (fun c_350 => ?_)
                              · exfalso; omega
                              · refine lv_aload_n hx hb dL_areMeters_353 rfl (lv_at hl 15 rfl) ?_
                                refine lv_iload hx hb dL_areMeters_354 (lv_at hl 7 rfl) ?_
                                refine x_iconst hx hb dL_areMeters_356 ?_
                                refine x_callVR (As := [.int (zI me), .int (zI 2)]) (rest := []) S hK (p_of_2 l D cs a τ pd ln me (by exact hG) (by omega)) (cwV 2 hts gL_areMeters_X6_of rfl rfl rfl (by decide +kernel) ⟨(Nat.le_of_ble_eq_true rfl), (Nat.le_of_ble_eq_true rfl)⟩) (PW_rc hK hW) hW rfl hl.1 (Nat.le_of_ble_eq_true rfl) dL_areMeters_357 ⟨Nat.zero_le _, Nat.zero_le _⟩ ?_
                                refine x_sipush hx hb dL_areMeters_360 (by decide +kernel) ?_
                                refine x_icmp_ge (tgt := 440) hx hb dL_areMeters_363 (by decide) (by omega) (by omega) (fun c_363 => ?_) (fun c_363 => ?_)
                                · exfalso; omega
                                · refine lv_aload_n hx hb dL_areMeters_366 rfl (lv_at hl 15 rfl) ?_
                                  refine lv_iload hx hb dL_areMeters_367 (lv_at hl 7 rfl) ?_
                                  refine x_iconst hx hb dL_areMeters_369 ?_
                                  refine x_callVR (As := [.int (zI me), .int (zI 3)]) (rest := []) S hK (p_of_3 l D cs a τ pd ln me (by exact hG) (by omega)) (cwV 2 hts gL_areMeters_X6_of rfl rfl rfl (by decide +kernel) ⟨(Nat.le_of_ble_eq_true rfl), (Nat.le_of_ble_eq_true rfl)⟩) (PW_rc hK hW) hW rfl hl.1 (Nat.le_of_ble_eq_true rfl) dL_areMeters_370 ⟨Nat.zero_le _, Nat.zero_le _⟩ ?_
                                  refine x_bipush hx hb dL_areMeters_373 (by decide +kernel) ?_
                                  refine x_icmp_lt (tgt := 440) hx hb dL_areMeters_375 (by decide) (by omega) (by omega) (fun c_375 => ?_) (fun c_375 => ?_)
                                  · exfalso; omega
                                  · refine lv_aload_n hx hb dL_areMeters_378 rfl (lv_at hl 15 rfl) ?_
                                    refine lv_iload hx hb dL_areMeters_379 (lv_at hl 7 rfl) ?_
                                    refine x_iconst hx hb dL_areMeters_381 ?_
                                    refine x_callVR (As := [.int (zI me), .int (zI 3)]) (rest := []) S hK (p_of_3 l D cs a τ pd ln me (by exact hG) (by omega)) (cwV 2 hts gL_areMeters_X6_of rfl rfl rfl (by decide +kernel) ⟨(Nat.le_of_ble_eq_true rfl), (Nat.le_of_ble_eq_true rfl)⟩) (PW_rc hK hW) hW rfl hl.1 (Nat.le_of_ble_eq_true rfl) dL_areMeters_382 ⟨Nat.zero_le _, Nat.zero_le _⟩ ?_
                                    refine x_sipush hx hb dL_areMeters_385 (by decide +kernel) ?_
                                    refine x_icmp_gt (tgt := 440) hx hb dL_areMeters_388 (by decide) (by omega) (by omega) (fun c_388 => ?_) (fun c_388 => ?_)
                                    · exfalso; omega
                                    · refine lv_aload_n hx hb dL_areMeters_391 rfl (lv_at hl 15 rfl) ?_
                                      refine lv_iload hx hb dL_areMeters_392 (lv_at hl 7 rfl) ?_
                                      refine x_bipush hx hb dL_areMeters_394 (by decide +kernel) ?_
                                      refine x_callVR (As := [.int (zI me), .int (zI 7)]) (rest := []) S hK (p_of_7 l D cs a τ pd ln me (by exact hG) (by omega)) (cwV 2 hts gL_areMeters_X6_of rfl rfl rfl (by decide +kernel) ⟨(Nat.le_of_ble_eq_true rfl), (Nat.le_of_ble_eq_true rfl)⟩) (PW_rc hK hW) hW rfl hl.1 (Nat.le_of_ble_eq_true rfl) dL_areMeters_396 ⟨Nat.zero_le _, Nat.zero_le _⟩ ?_
                                      refine x_if_le (tgt := 440) hx hb dL_areMeters_399 (by decide) (by omega) (fun c_399 => ?_) (fun c_399 => ?_)
                                      · exfalso; omega
                                      · refine lv_aload_n hx hb dL_areMeters_402 rfl (lv_at hl 15 rfl) ?_
                                        refine lv_iload hx hb dL_areMeters_403 (lv_at hl 7 rfl) ?_
                                        refine x_bipush hx hb dL_areMeters_405 (by decide +kernel) ?_
                                        refine x_callVR (As := [.int (zI me), .int (zI 7)]) (rest := []) S hK (p_of_7 l D cs a τ pd ln me (by exact hG) (by omega)) (cwV 2 hts gL_areMeters_X6_of rfl rfl rfl (by decide +kernel) ⟨(Nat.le_of_ble_eq_true rfl), (Nat.le_of_ble_eq_true rfl)⟩) (PW_rc hK hW) hW rfl hl.1 (Nat.le_of_ble_eq_true rfl) dL_areMeters_407 ⟨Nat.zero_le _, Nat.zero_le _⟩ ?_
                                        refine lv_aload_n hx hb dL_areMeters_410 rfl (lv_at hl 15 rfl) ?_
                                        refine x_bipush hx hb dL_areMeters_411 (by decide +kernel) ?_
                                        refine x_callVR (As := [.int (zI 8)]) (rest := [.int (zI (τ (11 + 13 * me + 6)))]) S hK (p_count_8 l D cs a τ pd ln (by exact hG)) (cwV 1 hts gL_areMeters_X6_count rfl rfl rfl (by decide +kernel) ⟨(Nat.le_of_ble_eq_true rfl), (Nat.le_of_ble_eq_true rfl)⟩) (PW_rc hK hW) hW rfl hl.1 (Nat.le_of_ble_eq_true rfl) dL_areMeters_413 ⟨Nat.zero_le _, Nat.zero_le _⟩ ?_
                                        refine x_icmp_gt (tgt := 440) hx hb dL_areMeters_416 (by decide) (by omega) (by omega) (fun c_416 => ?_) (fun c_416 => ?_)
                                        · exfalso; omega
                                        · refine lv_aload_n hx hb dL_areMeters_419 rfl (lv_at hl 15 rfl) ?_
                                          refine lv_iload hx hb dL_areMeters_420 (lv_at hl 7 rfl) ?_
                                          refine x_callVR (As := [.int (zI me)]) (rest := []) S hK (p_lags l D cs a τ pd ln me (by exact hG) (by omega)) (cwV 1 hts gL_areMeters_X6_lags rfl rfl rfl (by decide +kernel) ⟨(Nat.le_of_ble_eq_true rfl), (Nat.le_of_ble_eq_true rfl)⟩) (PW_rc hK hW) hW rfl hl.1 (Nat.le_of_ble_eq_true rfl) dL_areMeters_422 ⟨Nat.zero_le _, Nat.zero_le _⟩ ?_
                                          refine lv_iload hx hb dL_areMeters_425 (lv_at hl 3 rfl) ?_
                                          refine lv_iload hx hb dL_areMeters_427 (lv_at hl 2 rfl) ?_
                                          refine x_isub hx hb dL_areMeters_429 ?_
                                          refine x_ldc (v := 10000000) hx hb hown (hts (.constant RL 27 (zI 10000000)) (by decide +kernel)) dL_areMeters_430 ?_
                                          refine x_iadd hx hb dL_areMeters_432 ?_
                                          refine x_icmp_neE (tgt := 440) hx hb dL_areMeters_433 (by decide) (by exact elg) ?_
                                          refine x_iconst hx hb dL_areMeters_436 ?_
                                          refine lv_goto (tgt := 441) hx hb dL_areMeters_437 (by decide) ?_
                                          refine lv_istore (lv' := [(16, .int (zI 1)), (15, .int (zI se)), (14, .int (zI ((τ (11 + 13 * me + 3)) + (τ (11 + 13 * me + 4))))), (13, .int (zI be)), (12, .int (zI pw)), (11, .int (zI (fedC τ me))), (10, .int (zI (τ (11 + 13 * me + 0)))), (9, .int (zI me)), (8, .int (zI wo)), (6, .long (zL mo)), (5, .int (zI on)), (4, .int (zI co)), (3, .int (zI tu)), (2, .int (zI br)), (1, .int (zI (τ 7))), (0, .ref (a 0))]) hx hb dL_areMeters_441 hl (by decide) rfl (fun ls hl => ?_)
                                          refine lv_iload hx hb dL_areMeters_443 (lv_at hl 0 rfl) ?_
                                          refine x_if_eq (tgt := 507) hx hb dL_areMeters_445 (by decide) (by decide) (fun q => absurd q (by decide)) (fun _ => ?_)
                                          refine lv_aload_n hx hb dL_areMeters_448 rfl (lv_at hl 15 rfl) ?_
                                          refine lv_iload hx hb dL_areMeters_449 (lv_at hl 7 rfl) ?_
                                          refine x_iconst hx hb dL_areMeters_451 ?_
                                          refine x_callVR (As := [.int (zI me), .int (zI 3)]) (rest := []) S hK (p_of_3 l D cs a τ pd ln me (by exact hG) (by omega)) (cwV 2 hts gL_areMeters_X6_of rfl rfl rfl (by decide +kernel) ⟨(Nat.le_of_ble_eq_true rfl), (Nat.le_of_ble_eq_true rfl)⟩) (PW_rc hK hW) hW rfl hl.1 (Nat.le_of_ble_eq_true rfl) dL_areMeters_452 ⟨Nat.zero_le _, Nat.zero_le _⟩ ?_
                                          refine x_sipush hx hb dL_areMeters_455 (by decide +kernel) ?_
                                          refine x_icmp_ne (tgt := 477) hx hb dL_areMeters_458 (by decide) (by omega) (by omega) (fun c_458 => ?_) (fun c_458 => ?_)
                                          · refine lv_aload_n hx hb dL_areMeters_477 rfl (lv_at hl 15 rfl) ?_
                                            refine lv_iload hx hb dL_areMeters_478 (lv_at hl 7 rfl) ?_
                                            refine x_bipush hx hb dL_areMeters_480 (by decide +kernel) ?_
                                            refine x_callVR (As := [.int (zI me), .int (zI 10)]) (rest := []) S hK (p_of_10 l D cs a τ pd ln me (by exact hG) (by omega)) (cwV 2 hts gL_areMeters_X6_of rfl rfl rfl (by decide +kernel) ⟨(Nat.le_of_ble_eq_true rfl), (Nat.le_of_ble_eq_true rfl)⟩) (PW_rc hK hW) hW rfl hl.1 (Nat.le_of_ble_eq_true rfl) dL_areMeters_482 ⟨Nat.zero_le _, Nat.zero_le _⟩ ?_
                                            refine x_iconst hx hb dL_areMeters_485 ?_
                                            refine x_icmp_lt (tgt := 507) hx hb dL_areMeters_486 (by decide) (by omega) (by omega) (fun c_486 => ?_) (fun c_486 => ?_)
                                            · exfalso; omega
                                            · refine lv_aload_n hx hb dL_areMeters_489 rfl (lv_at hl 15 rfl) ?_
                                              refine lv_iload hx hb dL_areMeters_490 (lv_at hl 7 rfl) ?_
                                              refine x_bipush hx hb dL_areMeters_492 (by decide +kernel) ?_
                                              refine x_callVR (As := [.int (zI me), .int (zI 10)]) (rest := []) S hK (p_of_10 l D cs a τ pd ln me (by exact hG) (by omega)) (cwV 2 hts gL_areMeters_X6_of rfl rfl rfl (by decide +kernel) ⟨(Nat.le_of_ble_eq_true rfl), (Nat.le_of_ble_eq_true rfl)⟩) (PW_rc hK hW) hW rfl hl.1 (Nat.le_of_ble_eq_true rfl) dL_areMeters_494 ⟨Nat.zero_le _, Nat.zero_le _⟩ ?_
                                              refine x_sipush hx hb dL_areMeters_497 (by decide +kernel) ?_
                                              refine x_icmp_gt (tgt := 507) hx hb dL_areMeters_500 (by decide) (by omega) (by omega) (fun c_500 => ?_) (fun c_500 => ?_)
                                              · exfalso; omega
                                              · refine x_iconst hx hb dL_areMeters_503 ?_
                                                refine lv_goto (tgt := 508) hx hb dL_areMeters_504 (by decide) ?_
                                                refine lv_istore (lv' := [(16, .int (zI 1)), (15, .int (zI se)), (14, .int (zI ((τ (11 + 13 * me + 3)) + (τ (11 + 13 * me + 4))))), (13, .int (zI be)), (12, .int (zI pw)), (11, .int (zI (fedC τ me))), (10, .int (zI (τ (11 + 13 * me + 0)))), (9, .int (zI me)), (8, .int (zI wo)), (6, .long (zL mo)), (5, .int (zI on)), (4, .int (zI co)), (3, .int (zI tu)), (2, .int (zI br)), (1, .int (zI (τ 7))), (0, .ref (a 0))]) hx hb dL_areMeters_508 hl (by decide) rfl (fun ls hl => ?_)
                                                refine lv_iload hx hb dL_areMeters_510 (lv_at hl 0 rfl) ?_
                                                refine x_if_ne (tgt := 517) hx hb dL_areMeters_512 (by decide) (by decide) (fun _ => ?_) (fun q => absurd q (by decide))
                                                refine lv_aload_n hx hb dL_areMeters_517 rfl (lv_at hl 15 rfl) ?_
                                                refine lv_iload hx hb dL_areMeters_518 (lv_at hl 7 rfl) ?_
                                                refine x_callVR (As := [.int (zI me)]) (rest := []) S hK (p_misses l D cs a τ pd ln me (by exact hG) (by omega)) (cwV 1 hts gL_areMeters_X6_misses rfl rfl rfl (by decide +kernel) ⟨(Nat.le_of_ble_eq_true rfl), (Nat.le_of_ble_eq_true rfl)⟩) (PW_rc hK hW) hW rfl hl.1 (Nat.le_of_ble_eq_true rfl) dL_areMeters_520 ⟨Nat.zero_le _, Nat.zero_le _⟩ ?_
                                                have hms := msA_rng hG (k := me) (by omega)
                                                have hmo : -100000000000000 ≤ mo ∧ mo < 100000000000000 := by rcases j6 with ⟨z1, z2, z3⟩ | ⟨z1, z2, z3, z4, z5⟩; omega; (rw [z3]; exact msA_rng hG ⟨z4, z5⟩)
                                                refine lv_lstore (lv' := [(17, .long (zL (msA τ me))), (16, .int (zI 1)), (15, .int (zI se)), (14, .int (zI ((τ (11 + 13 * me + 3)) + (τ (11 + 13 * me + 4))))), (13, .int (zI be)), (12, .int (zI pw)), (11, .int (zI (fedC τ me))), (10, .int (zI (τ (11 + 13 * me + 0)))), (9, .int (zI me)), (8, .int (zI wo)), (6, .long (zL mo)), (5, .int (zI on)), (4, .int (zI co)), (3, .int (zI tu)), (2, .int (zI br)), (1, .int (zI (τ 7))), (0, .ref (a 0))]) hx hb dL_areMeters_523 hl (by decide) rfl (fun ls hl => ?_)
                                                refine lv_iload hx hb dL_areMeters_525 (lv_at hl 8 rfl) ?_
                                                refine x_if_eq (tgt := 538) hx hb dL_areMeters_527 (by decide) (by omega) (fun c_527 => ?_) (fun c_527 => ?_)
                                                · refine lv_iload hx hb dL_areMeters_538 (lv_at hl 8 rfl) ?_
                                                  refine lv_goto (tgt := 545) hx hb dL_areMeters_540 (by decide) ?_
                                                  refine lv_istore (lv' := [(8, .int (zI me)), (17, .long (zL (msA τ me))), (16, .int (zI 1)), (15, .int (zI se)), (14, .int (zI ((τ (11 + 13 * me + 3)) + (τ (11 + 13 * me + 4))))), (13, .int (zI be)), (12, .int (zI pw)), (11, .int (zI (fedC τ me))), (10, .int (zI (τ (11 + 13 * me + 0)))), (9, .int (zI me)), (6, .long (zL mo)), (5, .int (zI on)), (4, .int (zI co)), (3, .int (zI tu)), (2, .int (zI br)), (1, .int (zI (τ 7))), (0, .ref (a 0))]) hx hb dL_areMeters_545 hl (by decide) rfl (fun ls hl => ?_)
                                                  refine lv_iload hx hb dL_areMeters_547 (lv_at hl 9 rfl) ?_
                                                  refine x_if_eq (tgt := 560) hx hb dL_areMeters_549 (by decide) (by omega) (fun c_549 => ?_) (fun c_549 => ?_)
                                                  · refine lv_lload hx hb dL_areMeters_560 (lv_at hl 1 rfl) ?_
                                                    refine lv_goto (tgt := 567) hx hb dL_areMeters_562 (by decide) ?_
                                                    refine lv_lstore (lv' := [(6, .long (zL (msA τ me))), (8, .int (zI me)), (17, .long (zL (msA τ me))), (16, .int (zI 1)), (15, .int (zI se)), (14, .int (zI ((τ (11 + 13 * me + 3)) + (τ (11 + 13 * me + 4))))), (13, .int (zI be)), (12, .int (zI pw)), (11, .int (zI (fedC τ me))), (10, .int (zI (τ (11 + 13 * me + 0)))), (9, .int (zI me)), (5, .int (zI on)), (4, .int (zI co)), (3, .int (zI tu)), (2, .int (zI br)), (1, .int (zI (τ 7))), (0, .ref (a 0))]) hx hb dL_areMeters_567 hl (by decide) rfl (fun ls hl => ?_)
                                                    refine lv_iload_n hx hb dL_areMeters_569 rfl (lv_at hl 14 rfl) ?_
                                                    refine lv_aload_n hx hb dL_areMeters_570 rfl (lv_at hl 16 rfl) ?_
                                                    refine lv_iload hx hb dL_areMeters_571 (lv_at hl 10 rfl) ?_
                                                    refine x_bipush hx hb dL_areMeters_573 (by decide +kernel) ?_
                                                    refine x_callVR (As := [.int (zI me), .int (zI 8)]) (rest := [.int (zI br)]) S hK (p_of_8 l D cs a τ pd ln me (by exact hG) (by omega)) (cwV 2 hts gL_areMeters_X6_of rfl rfl rfl (by decide +kernel) ⟨(Nat.le_of_ble_eq_true rfl), (Nat.le_of_ble_eq_true rfl)⟩) (PW_rc hK hW) hW rfl hl.1 (Nat.le_of_ble_eq_true rfl) dL_areMeters_575 ⟨Nat.zero_le _, Nat.zero_le _⟩ ?_
                                                    refine lv_iload hx hb dL_areMeters_578 (lv_at hl 10 rfl) ?_
                                                    refine x_ishl hx hb (by omega) (by omega) dL_areMeters_580 ?_
                                                    refine x_ior hx hb (by omega) (by exact shI_nn (by omega)) dL_areMeters_581 ?_
                                                    refine lv_istore_n (lv' := [(2, .int (zI (orI br (shI (τ (11 + 13 * me + 7)) me)))), (6, .long (zL (msA τ me))), (8, .int (zI me)), (17, .long (zL (msA τ me))), (16, .int (zI 1)), (15, .int (zI se)), (14, .int (zI ((τ (11 + 13 * me + 3)) + (τ (11 + 13 * me + 4))))), (13, .int (zI be)), (12, .int (zI pw)), (11, .int (zI (fedC τ me))), (10, .int (zI (τ (11 + 13 * me + 0)))), (9, .int (zI me)), (5, .int (zI on)), (4, .int (zI co)), (3, .int (zI tu)), (1, .int (zI (τ 7))), (0, .ref (a 0))]) hx hb dL_areMeters_582 rfl hl (by decide) rfl (fun ls hl => ?_)
                                                    refine lv_iload_n hx hb dL_areMeters_583 rfl (lv_at hl 14 rfl) ?_
                                                    refine lv_iload hx hb dL_areMeters_584 (lv_at hl 6 rfl) ?_
                                                    refine x_iadd hx hb dL_areMeters_586 ?_
                                                    refine lv_istore_n (lv' := [(3, .int (zI (tu + ((τ (11 + 13 * me + 3)) + (τ (11 + 13 * me + 4)))))), (2, .int (zI (orI br (shI (τ (11 + 13 * me + 7)) me)))), (6, .long (zL (msA τ me))), (8, .int (zI me)), (17, .long (zL (msA τ me))), (16, .int (zI 1)), (15, .int (zI se)), (14, .int (zI ((τ (11 + 13 * me + 3)) + (τ (11 + 13 * me + 4))))), (13, .int (zI be)), (12, .int (zI pw)), (11, .int (zI (fedC τ me))), (10, .int (zI (τ (11 + 13 * me + 0)))), (9, .int (zI me)), (5, .int (zI on)), (4, .int (zI co)), (1, .int (zI (τ 7))), (0, .ref (a 0))]) hx hb dL_areMeters_587 rfl hl (by decide) rfl (fun ls hl => ?_)
                                                    refine lv_iload hx hb dL_areMeters_588 (lv_at hl 14 rfl) ?_
                                                    refine lv_aload_n hx hb dL_areMeters_590 rfl (lv_at hl 16 rfl) ?_
                                                    refine lv_iload hx hb dL_areMeters_591 (lv_at hl 12 rfl) ?_
                                                    refine x_bipush hx hb dL_areMeters_593 (by decide +kernel) ?_
                                                    refine x_callVR (As := [.int (zI me), .int (zI 9)]) (rest := [.int (zI co)]) S hK (p_of_9 l D cs a τ pd ln me (by exact hG) (by omega)) (cwV 2 hts gL_areMeters_X6_of rfl rfl rfl (by decide +kernel) ⟨(Nat.le_of_ble_eq_true rfl), (Nat.le_of_ble_eq_true rfl)⟩) (PW_rc hK hW) hW rfl hl.1 (Nat.le_of_ble_eq_true rfl) dL_areMeters_595 ⟨Nat.zero_le _, Nat.zero_le _⟩ ?_
                                                    refine x_iadd hx hb dL_areMeters_598 ?_
                                                    refine lv_istore (lv' := [(4, .int (zI (co + (τ (11 + 13 * me + 8))))), (3, .int (zI (tu + ((τ (11 + 13 * me + 3)) + (τ (11 + 13 * me + 4)))))), (2, .int (zI (orI br (shI (τ (11 + 13 * me + 7)) me)))), (6, .long (zL (msA τ me))), (8, .int (zI me)), (17, .long (zL (msA τ me))), (16, .int (zI 1)), (15, .int (zI se)), (14, .int (zI ((τ (11 + 13 * me + 3)) + (τ (11 + 13 * me + 4))))), (13, .int (zI be)), (12, .int (zI pw)), (11, .int (zI (fedC τ me))), (10, .int (zI (τ (11 + 13 * me + 0)))), (9, .int (zI me)), (5, .int (zI on)), (1, .int (zI (τ 7))), (0, .ref (a 0))]) hx hb dL_areMeters_599 hl (by decide) rfl (fun ls hl => ?_)
                                                    refine x_iinc (x := me) (lv' := [(9, .int (zI (me + 1))), (4, .int (zI (co + (τ (11 + 13 * me + 8))))), (3, .int (zI (tu + ((τ (11 + 13 * me + 3)) + (τ (11 + 13 * me + 4)))))), (2, .int (zI (orI br (shI (τ (11 + 13 * me + 7)) me)))), (6, .long (zL (msA τ me))), (8, .int (zI me)), (17, .long (zL (msA τ me))), (16, .int (zI 1)), (15, .int (zI se)), (14, .int (zI ((τ (11 + 13 * me + 3)) + (τ (11 + 13 * me + 4))))), (13, .int (zI be)), (12, .int (zI pw)), (11, .int (zI (fedC τ me))), (10, .int (zI (τ (11 + 13 * me + 0)))), (5, .int (zI on)), (1, .int (zI (τ 7))), (0, .ref (a 0))]) hx hb dL_areMeters_601 hl (k := 13) rfl (by decide) rfl (fun ls hl => ?_)
                                                    refine lv_goto (tgt := 67) hx hb dL_areMeters_604 (by decide) ?_
                                                    exact ih67 (me + 1) me (msA τ me) (co + (τ (11 + 13 * me + 8))) (tu + ((τ (11 + 13 * me + 3)) + (τ (11 + 13 * me + 4)))) (orI br (shI (τ (11 + 13 * me + 7)) me)) (n1 + 1) (by omega) (by omega) (by omega) (by rw [j3]; exact brC_s j1 rfl hm.2.2.2) (by rw [j4, j1]; rfl) (by rw [j5, j1]; rfl) (by first | (right; exact ⟨by omega, by rw [show n1 + 1 - 1 = 0 by omega]; show me = 0; omega, rfl, by omega, by omega⟩) | (rcases j6 with j6 | ⟨ja, jb, jc, jd, je⟩; (exfalso; omega); (right; exact ⟨by omega, by rw [show n1 + 1 - 1 = n1 - 1 + 1 by omega]; exact mm_y (by omega) (by rw [← jb, ← jc]; omega), rfl, by omega, by omega⟩)) | (rcases j6 with j6 | ⟨ja, jb, jc, jd, je⟩; (exfalso; omega); (right; exact ⟨by omega, by rw [show n1 + 1 - 1 = n1 - 1 + 1 by omega, jb]; exact mm_n (m := me) (by omega) (by rw [← jb, ← jc]; omega), jc, jd, je⟩))) ls (lv_sub hl [0, 5, 4, 14, 1, 2, 3, 15, 16] rfl)
                                                  · exfalso; omega
                                                · exfalso; omega
                                          · refine lv_aload_n hx hb dL_areMeters_461 rfl (lv_at hl 15 rfl) ?_
                                            refine lv_iload hx hb dL_areMeters_462 (lv_at hl 7 rfl) ?_
                                            refine x_bipush hx hb dL_areMeters_464 (by decide +kernel) ?_
                                            refine x_callVR (As := [.int (zI me), .int (zI 10)]) (rest := []) S hK (p_of_10 l D cs a τ pd ln me (by exact hG) (by omega)) (cwV 2 hts gL_areMeters_X6_of rfl rfl rfl (by decide +kernel) ⟨(Nat.le_of_ble_eq_true rfl), (Nat.le_of_ble_eq_true rfl)⟩) (PW_rc hK hW) hW rfl hl.1 (Nat.le_of_ble_eq_true rfl) dL_areMeters_466 ⟨Nat.zero_le _, Nat.zero_le _⟩ ?_
                                            refine x_bipush hx hb dL_areMeters_469 (by decide +kernel) ?_
                                            refine x_icmp_neE (tgt := 507) hx hb dL_areMeters_471 (by decide) (by omega) ?_
                                            refine lv_goto (tgt := 503) hx hb dL_areMeters_474 (by decide) ?_
                                            refine x_iconst hx hb dL_areMeters_503 ?_
                                            refine lv_goto (tgt := 508) hx hb dL_areMeters_504 (by decide) ?_
                                            refine lv_istore (lv' := [(16, .int (zI 1)), (15, .int (zI se)), (14, .int (zI ((τ (11 + 13 * me + 3)) + (τ (11 + 13 * me + 4))))), (13, .int (zI be)), (12, .int (zI pw)), (11, .int (zI (fedC τ me))), (10, .int (zI (τ (11 + 13 * me + 0)))), (9, .int (zI me)), (8, .int (zI wo)), (6, .long (zL mo)), (5, .int (zI on)), (4, .int (zI co)), (3, .int (zI tu)), (2, .int (zI br)), (1, .int (zI (τ 7))), (0, .ref (a 0))]) hx hb dL_areMeters_508 hl (by decide) rfl (fun ls hl => ?_)
                                            refine lv_iload hx hb dL_areMeters_510 (lv_at hl 0 rfl) ?_
                                            refine x_if_ne (tgt := 517) hx hb dL_areMeters_512 (by decide) (by decide) (fun _ => ?_) (fun q => absurd q (by decide))
                                            refine lv_aload_n hx hb dL_areMeters_517 rfl (lv_at hl 15 rfl) ?_
                                            refine lv_iload hx hb dL_areMeters_518 (lv_at hl 7 rfl) ?_
                                            refine x_callVR (As := [.int (zI me)]) (rest := []) S hK (p_misses l D cs a τ pd ln me (by exact hG) (by omega)) (cwV 1 hts gL_areMeters_X6_misses rfl rfl rfl (by decide +kernel) ⟨(Nat.le_of_ble_eq_true rfl), (Nat.le_of_ble_eq_true rfl)⟩) (PW_rc hK hW) hW rfl hl.1 (Nat.le_of_ble_eq_true rfl) dL_areMeters_520 ⟨Nat.zero_le _, Nat.zero_le _⟩ ?_
                                            have hms := msA_rng hG (k := me) (by omega)
                                            have hmo : -100000000000000 ≤ mo ∧ mo < 100000000000000 := by rcases j6 with ⟨z1, z2, z3⟩ | ⟨z1, z2, z3, z4, z5⟩; omega; (rw [z3]; exact msA_rng hG ⟨z4, z5⟩)
                                            refine lv_lstore (lv' := [(17, .long (zL (msA τ me))), (16, .int (zI 1)), (15, .int (zI se)), (14, .int (zI ((τ (11 + 13 * me + 3)) + (τ (11 + 13 * me + 4))))), (13, .int (zI be)), (12, .int (zI pw)), (11, .int (zI (fedC τ me))), (10, .int (zI (τ (11 + 13 * me + 0)))), (9, .int (zI me)), (8, .int (zI wo)), (6, .long (zL mo)), (5, .int (zI on)), (4, .int (zI co)), (3, .int (zI tu)), (2, .int (zI br)), (1, .int (zI (τ 7))), (0, .ref (a 0))]) hx hb dL_areMeters_523 hl (by decide) rfl (fun ls hl => ?_)
                                            refine lv_iload hx hb dL_areMeters_525 (lv_at hl 8 rfl) ?_
                                            refine x_if_eq (tgt := 538) hx hb dL_areMeters_527 (by decide) (by omega) (fun c_527 => ?_) (fun c_527 => ?_)
                                            · refine lv_iload hx hb dL_areMeters_538 (lv_at hl 8 rfl) ?_
                                              refine lv_goto (tgt := 545) hx hb dL_areMeters_540 (by decide) ?_
                                              refine lv_istore (lv' := [(8, .int (zI me)), (17, .long (zL (msA τ me))), (16, .int (zI 1)), (15, .int (zI se)), (14, .int (zI ((τ (11 + 13 * me + 3)) + (τ (11 + 13 * me + 4))))), (13, .int (zI be)), (12, .int (zI pw)), (11, .int (zI (fedC τ me))), (10, .int (zI (τ (11 + 13 * me + 0)))), (9, .int (zI me)), (6, .long (zL mo)), (5, .int (zI on)), (4, .int (zI co)), (3, .int (zI tu)), (2, .int (zI br)), (1, .int (zI (τ 7))), (0, .ref (a 0))]) hx hb dL_areMeters_545 hl (by decide) rfl (fun ls hl => ?_)
                                              refine lv_iload hx hb dL_areMeters_547 (lv_at hl 9 rfl) ?_
                                              refine x_if_eq (tgt := 560) hx hb dL_areMeters_549 (by decide) (by omega) (fun c_549 => ?_) (fun c_549 => ?_)
                                              · refine lv_lload hx hb dL_areMeters_560 (lv_at hl 1 rfl) ?_
                                                refine lv_goto (tgt := 567) hx hb dL_areMeters_562 (by decide) ?_
                                                refine lv_lstore (lv' := [(6, .long (zL (msA τ me))), (8, .int (zI me)), (17, .long (zL (msA τ me))), (16, .int (zI 1)), (15, .int (zI se)), (14, .int (zI ((τ (11 + 13 * me + 3)) + (τ (11 + 13 * me + 4))))), (13, .int (zI be)), (12, .int (zI pw)), (11, .int (zI (fedC τ me))), (10, .int (zI (τ (11 + 13 * me + 0)))), (9, .int (zI me)), (5, .int (zI on)), (4, .int (zI co)), (3, .int (zI tu)), (2, .int (zI br)), (1, .int (zI (τ 7))), (0, .ref (a 0))]) hx hb dL_areMeters_567 hl (by decide) rfl (fun ls hl => ?_)
                                                refine lv_iload_n hx hb dL_areMeters_569 rfl (lv_at hl 14 rfl) ?_
                                                refine lv_aload_n hx hb dL_areMeters_570 rfl (lv_at hl 16 rfl) ?_
                                                refine lv_iload hx hb dL_areMeters_571 (lv_at hl 10 rfl) ?_
                                                refine x_bipush hx hb dL_areMeters_573 (by decide +kernel) ?_
                                                refine x_callVR (As := [.int (zI me), .int (zI 8)]) (rest := [.int (zI br)]) S hK (p_of_8 l D cs a τ pd ln me (by exact hG) (by omega)) (cwV 2 hts gL_areMeters_X6_of rfl rfl rfl (by decide +kernel) ⟨(Nat.le_of_ble_eq_true rfl), (Nat.le_of_ble_eq_true rfl)⟩) (PW_rc hK hW) hW rfl hl.1 (Nat.le_of_ble_eq_true rfl) dL_areMeters_575 ⟨Nat.zero_le _, Nat.zero_le _⟩ ?_
                                                refine lv_iload hx hb dL_areMeters_578 (lv_at hl 10 rfl) ?_
                                                refine x_ishl hx hb (by omega) (by omega) dL_areMeters_580 ?_
                                                refine x_ior hx hb (by omega) (by exact shI_nn (by omega)) dL_areMeters_581 ?_
                                                refine lv_istore_n (lv' := [(2, .int (zI (orI br (shI (τ (11 + 13 * me + 7)) me)))), (6, .long (zL (msA τ me))), (8, .int (zI me)), (17, .long (zL (msA τ me))), (16, .int (zI 1)), (15, .int (zI se)), (14, .int (zI ((τ (11 + 13 * me + 3)) + (τ (11 + 13 * me + 4))))), (13, .int (zI be)), (12, .int (zI pw)), (11, .int (zI (fedC τ me))), (10, .int (zI (τ (11 + 13 * me + 0)))), (9, .int (zI me)), (5, .int (zI on)), (4, .int (zI co)), (3, .int (zI tu)), (1, .int (zI (τ 7))), (0, .ref (a 0))]) hx hb dL_areMeters_582 rfl hl (by decide) rfl (fun ls hl => ?_)
                                                refine lv_iload_n hx hb dL_areMeters_583 rfl (lv_at hl 14 rfl) ?_
                                                refine lv_iload hx hb dL_areMeters_584 (lv_at hl 6 rfl) ?_
                                                refine x_iadd hx hb dL_areMeters_586 ?_
                                                refine lv_istore_n (lv' := [(3, .int (zI (tu + ((τ (11 + 13 * me + 3)) + (τ (11 + 13 * me + 4)))))), (2, .int (zI (orI br (shI (τ (11 + 13 * me + 7)) me)))), (6, .long (zL (msA τ me))), (8, .int (zI me)), (17, .long (zL (msA τ me))), (16, .int (zI 1)), (15, .int (zI se)), (14, .int (zI ((τ (11 + 13 * me + 3)) + (τ (11 + 13 * me + 4))))), (13, .int (zI be)), (12, .int (zI pw)), (11, .int (zI (fedC τ me))), (10, .int (zI (τ (11 + 13 * me + 0)))), (9, .int (zI me)), (5, .int (zI on)), (4, .int (zI co)), (1, .int (zI (τ 7))), (0, .ref (a 0))]) hx hb dL_areMeters_587 rfl hl (by decide) rfl (fun ls hl => ?_)
                                                refine lv_iload hx hb dL_areMeters_588 (lv_at hl 14 rfl) ?_
                                                refine lv_aload_n hx hb dL_areMeters_590 rfl (lv_at hl 16 rfl) ?_
                                                refine lv_iload hx hb dL_areMeters_591 (lv_at hl 12 rfl) ?_
                                                refine x_bipush hx hb dL_areMeters_593 (by decide +kernel) ?_
                                                refine x_callVR (As := [.int (zI me), .int (zI 9)]) (rest := [.int (zI co)]) S hK (p_of_9 l D cs a τ pd ln me (by exact hG) (by omega)) (cwV 2 hts gL_areMeters_X6_of rfl rfl rfl (by decide +kernel) ⟨(Nat.le_of_ble_eq_true rfl), (Nat.le_of_ble_eq_true rfl)⟩) (PW_rc hK hW) hW rfl hl.1 (Nat.le_of_ble_eq_true rfl) dL_areMeters_595 ⟨Nat.zero_le _, Nat.zero_le _⟩ ?_
                                                refine x_iadd hx hb dL_areMeters_598 ?_
                                                refine lv_istore (lv' := [(4, .int (zI (co + (τ (11 + 13 * me + 8))))), (3, .int (zI (tu + ((τ (11 + 13 * me + 3)) + (τ (11 + 13 * me + 4)))))), (2, .int (zI (orI br (shI (τ (11 + 13 * me + 7)) me)))), (6, .long (zL (msA τ me))), (8, .int (zI me)), (17, .long (zL (msA τ me))), (16, .int (zI 1)), (15, .int (zI se)), (14, .int (zI ((τ (11 + 13 * me + 3)) + (τ (11 + 13 * me + 4))))), (13, .int (zI be)), (12, .int (zI pw)), (11, .int (zI (fedC τ me))), (10, .int (zI (τ (11 + 13 * me + 0)))), (9, .int (zI me)), (5, .int (zI on)), (1, .int (zI (τ 7))), (0, .ref (a 0))]) hx hb dL_areMeters_599 hl (by decide) rfl (fun ls hl => ?_)
                                                refine x_iinc (x := me) (lv' := [(9, .int (zI (me + 1))), (4, .int (zI (co + (τ (11 + 13 * me + 8))))), (3, .int (zI (tu + ((τ (11 + 13 * me + 3)) + (τ (11 + 13 * me + 4)))))), (2, .int (zI (orI br (shI (τ (11 + 13 * me + 7)) me)))), (6, .long (zL (msA τ me))), (8, .int (zI me)), (17, .long (zL (msA τ me))), (16, .int (zI 1)), (15, .int (zI se)), (14, .int (zI ((τ (11 + 13 * me + 3)) + (τ (11 + 13 * me + 4))))), (13, .int (zI be)), (12, .int (zI pw)), (11, .int (zI (fedC τ me))), (10, .int (zI (τ (11 + 13 * me + 0)))), (5, .int (zI on)), (1, .int (zI (τ 7))), (0, .ref (a 0))]) hx hb dL_areMeters_601 hl (k := 13) rfl (by decide) rfl (fun ls hl => ?_)
                                                refine lv_goto (tgt := 67) hx hb dL_areMeters_604 (by decide) ?_
                                                exact ih67 (me + 1) me (msA τ me) (co + (τ (11 + 13 * me + 8))) (tu + ((τ (11 + 13 * me + 3)) + (τ (11 + 13 * me + 4)))) (orI br (shI (τ (11 + 13 * me + 7)) me)) (n1 + 1) (by omega) (by omega) (by omega) (by rw [j3]; exact brC_s j1 rfl hm.2.2.2) (by rw [j4, j1]; rfl) (by rw [j5, j1]; rfl) (by first | (right; exact ⟨by omega, by rw [show n1 + 1 - 1 = 0 by omega]; show me = 0; omega, rfl, by omega, by omega⟩) | (rcases j6 with j6 | ⟨ja, jb, jc, jd, je⟩; (exfalso; omega); (right; exact ⟨by omega, by rw [show n1 + 1 - 1 = n1 - 1 + 1 by omega]; exact mm_y (by omega) (by rw [← jb, ← jc]; omega), rfl, by omega, by omega⟩)) | (rcases j6 with j6 | ⟨ja, jb, jc, jd, je⟩; (exfalso; omega); (right; exact ⟨by omega, by rw [show n1 + 1 - 1 = n1 - 1 + 1 by omega, jb]; exact mm_n (m := me) (by omega) (by rw [← jb, ← jc]; omega), jc, jd, je⟩))) ls (lv_sub hl [0, 5, 4, 14, 1, 2, 3, 15, 16] rfl)
                                              · exfalso; omega
                                            · exfalso; omega
                          · refine lv_iload hx hb dL_areMeters_207 (lv_at hl 0 rfl) ?_
                            refine x_bipush hx hb dL_areMeters_209 (by decide +kernel) ?_
                            refine x_icmp_ge (tgt := 297) hx hb dL_areMeters_211 (by decide) (by omega) (by omega) (fun c_211 => ?_) (fun c_211 => ?_)
                            · exfalso; omega
                            · have hq0 := gd_0 hG (k := q) (by omega)
                              have hse : 0 ≤ se ∧ se < 2147483648 := by rw [b3]; exact fdC_rng (by omega) n3 (by omega)
                              refine lv_iload hx hb dL_areMeters_214 (lv_at hl 1 rfl) ?_
                              refine lv_aload_n hx hb dL_areMeters_216 rfl (lv_at hl 15 rfl) ?_
                              refine lv_iload hx hb dL_areMeters_217 (lv_at hl 0 rfl) ?_
                              refine x_iconst hx hb dL_areMeters_219 ?_
                              refine x_callVR (As := [.int (zI q), .int (zI 0)]) (rest := [.int (zI se)]) S hK (p_of_0 l D cs a τ pd ln q (by exact hG) (by omega)) (cwV 2 hts gL_areMeters_X6_of rfl rfl rfl (by decide +kernel) ⟨(Nat.le_of_ble_eq_true rfl), (Nat.le_of_ble_eq_true rfl)⟩) (PW_rc hK hW) hW rfl hl.1 (Nat.le_of_ble_eq_true rfl) dL_areMeters_220 ⟨Nat.zero_le _, Nat.zero_le _⟩ ?_
                              refine lv_iload hx hb dL_areMeters_223 (lv_at hl 7 rfl) ?_
                              refine x_icmp_lt (tgt := 251) hx hb dL_areMeters_225 (by decide) (by omega) (by omega) (fun c_225 => ?_) (fun c_225 => ?_)
                              · refine x_iconst hx hb dL_areMeters_251 ?_
                                refine x_ior hx hb (by omega) (by first | exact shI_nn (by decide) | decide) dL_areMeters_252 ?_
                                refine lv_istore (lv' := [(15, .int (zI (orI se 0))), (16, .int (zI q)), (14, .int (zI ((τ (11 + 13 * me + 3)) + (τ (11 + 13 * me + 4))))), (13, .int (zI be)), (12, .int (zI pw)), (11, .int (zI (fedC τ me))), (10, .int (zI (τ (11 + 13 * me + 0)))), (9, .int (zI me)), (8, .int (zI wo)), (6, .long (zL mo)), (5, .int (zI on)), (4, .int (zI co)), (3, .int (zI tu)), (2, .int (zI br)), (1, .int (zI (τ 7))), (0, .ref (a 0))]) hx hb dL_areMeters_253 hl (by decide) rfl (fun ls hl => ?_)
                                refine lv_iload hx hb dL_areMeters_255 (lv_at hl 3 rfl) ?_
                                refine lv_aload_n hx hb dL_areMeters_257 rfl (lv_at hl 15 rfl) ?_
                                refine lv_iload hx hb dL_areMeters_258 (lv_at hl 1 rfl) ?_
                                refine x_iconst hx hb dL_areMeters_260 ?_
                                refine x_callVR (As := [.int (zI q), .int (zI 0)]) (rest := [.int (zI be)]) S hK (p_of_0 l D cs a τ pd ln q (by exact hG) (by omega)) (cwV 2 hts gL_areMeters_X6_of rfl rfl rfl (by decide +kernel) ⟨(Nat.le_of_ble_eq_true rfl), (Nat.le_of_ble_eq_true rfl)⟩) (PW_rc hK hW) hW rfl hl.1 (Nat.le_of_ble_eq_true rfl) dL_areMeters_261 ⟨Nat.zero_le _, Nat.zero_le _⟩ ?_
                                refine lv_iload hx hb dL_areMeters_264 (lv_at hl 7 rfl) ?_
                                refine x_icmp_ne (tgt := 287) hx hb dL_areMeters_266 (by decide) (by omega) (by omega) (fun c_266 => ?_) (fun c_266 => ?_)
                                · refine x_iconst hx hb dL_areMeters_287 ?_
                                  refine x_iadd hx hb dL_areMeters_288 ?_
                                  refine lv_istore (lv' := [(13, .int (zI (be + 0))), (15, .int (zI (orI se 0))), (16, .int (zI q)), (14, .int (zI ((τ (11 + 13 * me + 3)) + (τ (11 + 13 * me + 4))))), (12, .int (zI pw)), (11, .int (zI (fedC τ me))), (10, .int (zI (τ (11 + 13 * me + 0)))), (9, .int (zI me)), (8, .int (zI wo)), (6, .long (zL mo)), (5, .int (zI on)), (4, .int (zI co)), (3, .int (zI tu)), (2, .int (zI br)), (1, .int (zI (τ 7))), (0, .ref (a 0))]) hx hb dL_areMeters_289 hl (by decide) rfl (fun ls hl => ?_)
                                  refine x_iinc (x := q) (lv' := [(16, .int (zI (q + 1))), (13, .int (zI (be + 0))), (15, .int (zI (orI se 0))), (14, .int (zI ((τ (11 + 13 * me + 3)) + (τ (11 + 13 * me + 4))))), (12, .int (zI pw)), (11, .int (zI (fedC τ me))), (10, .int (zI (τ (11 + 13 * me + 0)))), (9, .int (zI me)), (8, .int (zI wo)), (6, .long (zL mo)), (5, .int (zI on)), (4, .int (zI co)), (3, .int (zI tu)), (2, .int (zI br)), (1, .int (zI (τ 7))), (0, .ref (a 0))]) hx hb dL_areMeters_291 hl (k := 2) rfl (by decide) rfl (fun ls hl => ?_)
                                  refine lv_goto (tgt := 201) hx hb dL_areMeters_294 (by decide) ?_
                                  exact ih201 (q + 1) (orI se 0) (be + 0) (n3 + 1) (by omega) (by omega) (by omega) (by first | (rw [b3]; exact fd_y b1 (by rw [b3] at c_241; exact c_241)) | (rw [b3]; exact fd_n (by omega) (by omega) b1 (by rw [b3] at c_241; exact c_241)) | (rw [b3]; exact fd_lo (gd_g hG).1 (by omega) (by omega) b1 (by omega) c_225)) (by first | (rw [b4]; exact tb_y b1 c_266) | (rw [b4]; exact tb_n b1 c_266)) ls (lv_sub hl [0, 2, 3, 1, 4, 5, 6, 7, 8, 9, 10, 11, 12, 13, 14, 15] rfl)
                                · refine lv_aload_n hx hb dL_areMeters_269 rfl (lv_at hl 15 rfl) ?_
                                  refine lv_iload hx hb dL_areMeters_270 (lv_at hl 1 rfl) ?_
                                  refine x_iconst hx hb dL_areMeters_272 ?_
                                  refine x_callVR (As := [.int (zI q), .int (zI 4)]) (rest := [.int (zI be)]) S hK (p_of_4 l D cs a τ pd ln q (by exact hG) (by omega)) (cwV 2 hts gL_areMeters_X6_of rfl rfl rfl (by decide +kernel) ⟨(Nat.le_of_ble_eq_true rfl), (Nat.le_of_ble_eq_true rfl)⟩) (PW_rc hK hW) hW rfl hl.1 (Nat.le_of_ble_eq_true rfl) dL_areMeters_273 ⟨Nat.zero_le _, Nat.zero_le _⟩ ?_
                                  refine lv_aload_n hx hb dL_areMeters_276 rfl (lv_at hl 15 rfl) ?_
                                  refine lv_iload hx hb dL_areMeters_277 (lv_at hl 1 rfl) ?_
                                  refine x_iconst hx hb dL_areMeters_279 ?_
                                  refine x_callVR (As := [.int (zI q), .int (zI 5)]) (rest := [.int (zI (τ (11 + 13 * q + 3))), .int (zI be)]) S hK (p_of_5 l D cs a τ pd ln q (by exact hG) (by omega)) (cwV 2 hts gL_areMeters_X6_of rfl rfl rfl (by decide +kernel) ⟨(Nat.le_of_ble_eq_true rfl), (Nat.le_of_ble_eq_true rfl)⟩) (PW_rc hK hW) hW rfl hl.1 (Nat.le_of_ble_eq_true rfl) dL_areMeters_280 ⟨Nat.zero_le _, Nat.zero_le _⟩ ?_
                                  refine x_iadd hx hb dL_areMeters_283 ?_
                                  refine lv_goto (tgt := 288) hx hb dL_areMeters_284 (by decide) ?_
                                  refine x_iadd hx hb dL_areMeters_288 ?_
                                  refine lv_istore (lv' := [(13, .int (zI (be + ((τ (11 + 13 * q + 3)) + (τ (11 + 13 * q + 4)))))), (15, .int (zI (orI se 0))), (16, .int (zI q)), (14, .int (zI ((τ (11 + 13 * me + 3)) + (τ (11 + 13 * me + 4))))), (12, .int (zI pw)), (11, .int (zI (fedC τ me))), (10, .int (zI (τ (11 + 13 * me + 0)))), (9, .int (zI me)), (8, .int (zI wo)), (6, .long (zL mo)), (5, .int (zI on)), (4, .int (zI co)), (3, .int (zI tu)), (2, .int (zI br)), (1, .int (zI (τ 7))), (0, .ref (a 0))]) hx hb dL_areMeters_289 hl (by decide) rfl (fun ls hl => ?_)
                                  refine x_iinc (x := q) (lv' := [(16, .int (zI (q + 1))), (13, .int (zI (be + ((τ (11 + 13 * q + 3)) + (τ (11 + 13 * q + 4)))))), (15, .int (zI (orI se 0))), (14, .int (zI ((τ (11 + 13 * me + 3)) + (τ (11 + 13 * me + 4))))), (12, .int (zI pw)), (11, .int (zI (fedC τ me))), (10, .int (zI (τ (11 + 13 * me + 0)))), (9, .int (zI me)), (8, .int (zI wo)), (6, .long (zL mo)), (5, .int (zI on)), (4, .int (zI co)), (3, .int (zI tu)), (2, .int (zI br)), (1, .int (zI (τ 7))), (0, .ref (a 0))]) hx hb dL_areMeters_291 hl (k := 2) rfl (by decide) rfl (fun ls hl => ?_)
                                  refine lv_goto (tgt := 201) hx hb dL_areMeters_294 (by decide) ?_
                                  exact ih201 (q + 1) (orI se 0) (be + ((τ (11 + 13 * q + 3)) + (τ (11 + 13 * q + 4)))) (n3 + 1) (by omega) (by omega) (by omega) (by first | (rw [b3]; exact fd_y b1 (by rw [b3] at c_241; exact c_241)) | (rw [b3]; exact fd_n (by omega) (by omega) b1 (by rw [b3] at c_241; exact c_241)) | (rw [b3]; exact fd_lo (gd_g hG).1 (by omega) (by omega) b1 (by omega) c_225)) (by first | (rw [b4]; exact tb_y b1 c_266) | (rw [b4]; exact tb_n b1 c_266)) ls (lv_sub hl [0, 2, 3, 1, 4, 5, 6, 7, 8, 9, 10, 11, 12, 13, 14, 15] rfl)
                              · refine lv_iload hx hb dL_areMeters_228 (lv_at hl 1 rfl) ?_
                                refine lv_aload_n hx hb dL_areMeters_230 rfl (lv_at hl 15 rfl) ?_
                                refine lv_iload hx hb dL_areMeters_231 (lv_at hl 0 rfl) ?_
                                refine x_iconst hx hb dL_areMeters_233 ?_
                                refine x_callVR (As := [.int (zI q), .int (zI 0)]) (rest := [.int (zI se), .int (zI se)]) S hK (p_of_0 l D cs a τ pd ln q (by exact hG) (by omega)) (cwV 2 hts gL_areMeters_X6_of rfl rfl rfl (by decide +kernel) ⟨(Nat.le_of_ble_eq_true rfl), (Nat.le_of_ble_eq_true rfl)⟩) (PW_rc hK hW) hW rfl hl.1 (Nat.le_of_ble_eq_true rfl) dL_areMeters_234 ⟨Nat.zero_le _, Nat.zero_le _⟩ ?_
                                refine x_ishr hx hb (by omega) (by omega) dL_areMeters_237 ?_
                                refine x_iconst hx hb dL_areMeters_238 ?_
                                refine x_iand hx hb (by exact shr_rng _ hse) dL_areMeters_239 ?_
                                refine x_iconst hx hb dL_areMeters_240 ?_
                                refine x_icmp_ne (tgt := 251) hx hb dL_areMeters_241 (by decide) (by omega) (by omega) (fun c_241 => ?_) (fun c_241 => ?_)
                                · refine x_iconst hx hb dL_areMeters_251 ?_
                                  refine x_ior hx hb (by omega) (by first | exact shI_nn (by decide) | decide) dL_areMeters_252 ?_
                                  refine lv_istore (lv' := [(15, .int (zI (orI se 0))), (16, .int (zI q)), (14, .int (zI ((τ (11 + 13 * me + 3)) + (τ (11 + 13 * me + 4))))), (13, .int (zI be)), (12, .int (zI pw)), (11, .int (zI (fedC τ me))), (10, .int (zI (τ (11 + 13 * me + 0)))), (9, .int (zI me)), (8, .int (zI wo)), (6, .long (zL mo)), (5, .int (zI on)), (4, .int (zI co)), (3, .int (zI tu)), (2, .int (zI br)), (1, .int (zI (τ 7))), (0, .ref (a 0))]) hx hb dL_areMeters_253 hl (by decide) rfl (fun ls hl => ?_)
                                  refine lv_iload hx hb dL_areMeters_255 (lv_at hl 3 rfl) ?_
                                  refine lv_aload_n hx hb dL_areMeters_257 rfl (lv_at hl 15 rfl) ?_
                                  refine lv_iload hx hb dL_areMeters_258 (lv_at hl 1 rfl) ?_
                                  refine x_iconst hx hb dL_areMeters_260 ?_
                                  refine x_callVR (As := [.int (zI q), .int (zI 0)]) (rest := [.int (zI be)]) S hK (p_of_0 l D cs a τ pd ln q (by exact hG) (by omega)) (cwV 2 hts gL_areMeters_X6_of rfl rfl rfl (by decide +kernel) ⟨(Nat.le_of_ble_eq_true rfl), (Nat.le_of_ble_eq_true rfl)⟩) (PW_rc hK hW) hW rfl hl.1 (Nat.le_of_ble_eq_true rfl) dL_areMeters_261 ⟨Nat.zero_le _, Nat.zero_le _⟩ ?_
                                  refine lv_iload hx hb dL_areMeters_264 (lv_at hl 7 rfl) ?_
                                  refine x_icmp_ne (tgt := 287) hx hb dL_areMeters_266 (by decide) (by omega) (by omega) (fun c_266 => ?_) (fun c_266 => ?_)
                                  · refine x_iconst hx hb dL_areMeters_287 ?_
                                    refine x_iadd hx hb dL_areMeters_288 ?_
                                    refine lv_istore (lv' := [(13, .int (zI (be + 0))), (15, .int (zI (orI se 0))), (16, .int (zI q)), (14, .int (zI ((τ (11 + 13 * me + 3)) + (τ (11 + 13 * me + 4))))), (12, .int (zI pw)), (11, .int (zI (fedC τ me))), (10, .int (zI (τ (11 + 13 * me + 0)))), (9, .int (zI me)), (8, .int (zI wo)), (6, .long (zL mo)), (5, .int (zI on)), (4, .int (zI co)), (3, .int (zI tu)), (2, .int (zI br)), (1, .int (zI (τ 7))), (0, .ref (a 0))]) hx hb dL_areMeters_289 hl (by decide) rfl (fun ls hl => ?_)
                                    refine x_iinc (x := q) (lv' := [(16, .int (zI (q + 1))), (13, .int (zI (be + 0))), (15, .int (zI (orI se 0))), (14, .int (zI ((τ (11 + 13 * me + 3)) + (τ (11 + 13 * me + 4))))), (12, .int (zI pw)), (11, .int (zI (fedC τ me))), (10, .int (zI (τ (11 + 13 * me + 0)))), (9, .int (zI me)), (8, .int (zI wo)), (6, .long (zL mo)), (5, .int (zI on)), (4, .int (zI co)), (3, .int (zI tu)), (2, .int (zI br)), (1, .int (zI (τ 7))), (0, .ref (a 0))]) hx hb dL_areMeters_291 hl (k := 2) rfl (by decide) rfl (fun ls hl => ?_)
                                    refine lv_goto (tgt := 201) hx hb dL_areMeters_294 (by decide) ?_
                                    exact ih201 (q + 1) (orI se 0) (be + 0) (n3 + 1) (by omega) (by omega) (by omega) (by first | (rw [b3]; exact fd_y b1 (by rw [b3] at c_241; exact c_241)) | (rw [b3]; exact fd_n (by omega) (by omega) b1 (by rw [b3] at c_241; exact c_241)) | (rw [b3]; exact fd_lo (gd_g hG).1 (by omega) (by omega) b1 (by omega) c_225)) (by first | (rw [b4]; exact tb_y b1 c_266) | (rw [b4]; exact tb_n b1 c_266)) ls (lv_sub hl [0, 2, 3, 1, 4, 5, 6, 7, 8, 9, 10, 11, 12, 13, 14, 15] rfl)
                                  · refine lv_aload_n hx hb dL_areMeters_269 rfl (lv_at hl 15 rfl) ?_
                                    refine lv_iload hx hb dL_areMeters_270 (lv_at hl 1 rfl) ?_
                                    refine x_iconst hx hb dL_areMeters_272 ?_
                                    refine x_callVR (As := [.int (zI q), .int (zI 4)]) (rest := [.int (zI be)]) S hK (p_of_4 l D cs a τ pd ln q (by exact hG) (by omega)) (cwV 2 hts gL_areMeters_X6_of rfl rfl rfl (by decide +kernel) ⟨(Nat.le_of_ble_eq_true rfl), (Nat.le_of_ble_eq_true rfl)⟩) (PW_rc hK hW) hW rfl hl.1 (Nat.le_of_ble_eq_true rfl) dL_areMeters_273 ⟨Nat.zero_le _, Nat.zero_le _⟩ ?_
                                    refine lv_aload_n hx hb dL_areMeters_276 rfl (lv_at hl 15 rfl) ?_
                                    refine lv_iload hx hb dL_areMeters_277 (lv_at hl 1 rfl) ?_
                                    refine x_iconst hx hb dL_areMeters_279 ?_
                                    refine x_callVR (As := [.int (zI q), .int (zI 5)]) (rest := [.int (zI (τ (11 + 13 * q + 3))), .int (zI be)]) S hK (p_of_5 l D cs a τ pd ln q (by exact hG) (by omega)) (cwV 2 hts gL_areMeters_X6_of rfl rfl rfl (by decide +kernel) ⟨(Nat.le_of_ble_eq_true rfl), (Nat.le_of_ble_eq_true rfl)⟩) (PW_rc hK hW) hW rfl hl.1 (Nat.le_of_ble_eq_true rfl) dL_areMeters_280 ⟨Nat.zero_le _, Nat.zero_le _⟩ ?_
                                    refine x_iadd hx hb dL_areMeters_283 ?_
                                    refine lv_goto (tgt := 288) hx hb dL_areMeters_284 (by decide) ?_
                                    refine x_iadd hx hb dL_areMeters_288 ?_
                                    refine lv_istore (lv' := [(13, .int (zI (be + ((τ (11 + 13 * q + 3)) + (τ (11 + 13 * q + 4)))))), (15, .int (zI (orI se 0))), (16, .int (zI q)), (14, .int (zI ((τ (11 + 13 * me + 3)) + (τ (11 + 13 * me + 4))))), (12, .int (zI pw)), (11, .int (zI (fedC τ me))), (10, .int (zI (τ (11 + 13 * me + 0)))), (9, .int (zI me)), (8, .int (zI wo)), (6, .long (zL mo)), (5, .int (zI on)), (4, .int (zI co)), (3, .int (zI tu)), (2, .int (zI br)), (1, .int (zI (τ 7))), (0, .ref (a 0))]) hx hb dL_areMeters_289 hl (by decide) rfl (fun ls hl => ?_)
                                    refine x_iinc (x := q) (lv' := [(16, .int (zI (q + 1))), (13, .int (zI (be + ((τ (11 + 13 * q + 3)) + (τ (11 + 13 * q + 4)))))), (15, .int (zI (orI se 0))), (14, .int (zI ((τ (11 + 13 * me + 3)) + (τ (11 + 13 * me + 4))))), (12, .int (zI pw)), (11, .int (zI (fedC τ me))), (10, .int (zI (τ (11 + 13 * me + 0)))), (9, .int (zI me)), (8, .int (zI wo)), (6, .long (zL mo)), (5, .int (zI on)), (4, .int (zI co)), (3, .int (zI tu)), (2, .int (zI br)), (1, .int (zI (τ 7))), (0, .ref (a 0))]) hx hb dL_areMeters_291 hl (k := 2) rfl (by decide) rfl (fun ls hl => ?_)
                                    refine lv_goto (tgt := 201) hx hb dL_areMeters_294 (by decide) ?_
                                    exact ih201 (q + 1) (orI se 0) (be + ((τ (11 + 13 * q + 3)) + (τ (11 + 13 * q + 4)))) (n3 + 1) (by omega) (by omega) (by omega) (by first | (rw [b3]; exact fd_y b1 (by rw [b3] at c_241; exact c_241)) | (rw [b3]; exact fd_n (by omega) (by omega) b1 (by rw [b3] at c_241; exact c_241)) | (rw [b3]; exact fd_lo (gd_g hG).1 (by omega) (by omega) b1 (by omega) c_225)) (by first | (rw [b4]; exact tb_y b1 c_266) | (rw [b4]; exact tb_n b1 c_266)) ls (lv_sub hl [0, 2, 3, 1, 4, 5, 6, 7, 8, 9, 10, 11, 12, 13, 14, 15] rfl)
                                · refine x_iconst hx hb dL_areMeters_244 ?_
                                  refine lv_iload hx hb dL_areMeters_245 (lv_at hl 0 rfl) ?_
                                  refine x_ishl hx hb (by omega) (by omega) dL_areMeters_247 ?_
                                  refine lv_goto (tgt := 252) hx hb dL_areMeters_248 (by decide) ?_
                                  refine x_ior hx hb (by omega) (by first | exact shI_nn (by decide) | decide) dL_areMeters_252 ?_
                                  refine lv_istore (lv' := [(15, .int (zI (orI se (shI 1 q)))), (16, .int (zI q)), (14, .int (zI ((τ (11 + 13 * me + 3)) + (τ (11 + 13 * me + 4))))), (13, .int (zI be)), (12, .int (zI pw)), (11, .int (zI (fedC τ me))), (10, .int (zI (τ (11 + 13 * me + 0)))), (9, .int (zI me)), (8, .int (zI wo)), (6, .long (zL mo)), (5, .int (zI on)), (4, .int (zI co)), (3, .int (zI tu)), (2, .int (zI br)), (1, .int (zI (τ 7))), (0, .ref (a 0))]) hx hb dL_areMeters_253 hl (by decide) rfl (fun ls hl => ?_)
                                  refine lv_iload hx hb dL_areMeters_255 (lv_at hl 3 rfl) ?_
                                  refine lv_aload_n hx hb dL_areMeters_257 rfl (lv_at hl 15 rfl) ?_
                                  refine lv_iload hx hb dL_areMeters_258 (lv_at hl 1 rfl) ?_
                                  refine x_iconst hx hb dL_areMeters_260 ?_
                                  refine x_callVR (As := [.int (zI q), .int (zI 0)]) (rest := [.int (zI be)]) S hK (p_of_0 l D cs a τ pd ln q (by exact hG) (by omega)) (cwV 2 hts gL_areMeters_X6_of rfl rfl rfl (by decide +kernel) ⟨(Nat.le_of_ble_eq_true rfl), (Nat.le_of_ble_eq_true rfl)⟩) (PW_rc hK hW) hW rfl hl.1 (Nat.le_of_ble_eq_true rfl) dL_areMeters_261 ⟨Nat.zero_le _, Nat.zero_le _⟩ ?_
                                  refine lv_iload hx hb dL_areMeters_264 (lv_at hl 7 rfl) ?_
                                  refine x_icmp_ne (tgt := 287) hx hb dL_areMeters_266 (by decide) (by omega) (by omega) (fun c_266 => ?_) (fun c_266 => ?_)
                                  · refine x_iconst hx hb dL_areMeters_287 ?_
                                    refine x_iadd hx hb dL_areMeters_288 ?_
                                    refine lv_istore (lv' := [(13, .int (zI (be + 0))), (15, .int (zI (orI se (shI 1 q)))), (16, .int (zI q)), (14, .int (zI ((τ (11 + 13 * me + 3)) + (τ (11 + 13 * me + 4))))), (12, .int (zI pw)), (11, .int (zI (fedC τ me))), (10, .int (zI (τ (11 + 13 * me + 0)))), (9, .int (zI me)), (8, .int (zI wo)), (6, .long (zL mo)), (5, .int (zI on)), (4, .int (zI co)), (3, .int (zI tu)), (2, .int (zI br)), (1, .int (zI (τ 7))), (0, .ref (a 0))]) hx hb dL_areMeters_289 hl (by decide) rfl (fun ls hl => ?_)
                                    refine x_iinc (x := q) (lv' := [(16, .int (zI (q + 1))), (13, .int (zI (be + 0))), (15, .int (zI (orI se (shI 1 q)))), (14, .int (zI ((τ (11 + 13 * me + 3)) + (τ (11 + 13 * me + 4))))), (12, .int (zI pw)), (11, .int (zI (fedC τ me))), (10, .int (zI (τ (11 + 13 * me + 0)))), (9, .int (zI me)), (8, .int (zI wo)), (6, .long (zL mo)), (5, .int (zI on)), (4, .int (zI co)), (3, .int (zI tu)), (2, .int (zI br)), (1, .int (zI (τ 7))), (0, .ref (a 0))]) hx hb dL_areMeters_291 hl (k := 2) rfl (by decide) rfl (fun ls hl => ?_)
                                    refine lv_goto (tgt := 201) hx hb dL_areMeters_294 (by decide) ?_
                                    exact ih201 (q + 1) (orI se (shI 1 q)) (be + 0) (n3 + 1) (by omega) (by omega) (by omega) (by first | (rw [b3]; exact fd_y b1 (by rw [b3] at c_241; exact c_241)) | (rw [b3]; exact fd_n (by omega) (by omega) b1 (by rw [b3] at c_241; exact c_241)) | (rw [b3]; exact fd_lo (gd_g hG).1 (by omega) (by omega) b1 (by omega) c_225)) (by first | (rw [b4]; exact tb_y b1 c_266) | (rw [b4]; exact tb_n b1 c_266)) ls (lv_sub hl [0, 2, 3, 1, 4, 5, 6, 7, 8, 9, 10, 11, 12, 13, 14, 15] rfl)
                                  · refine lv_aload_n hx hb dL_areMeters_269 rfl (lv_at hl 15 rfl) ?_
                                    refine lv_iload hx hb dL_areMeters_270 (lv_at hl 1 rfl) ?_
                                    refine x_iconst hx hb dL_areMeters_272 ?_
                                    refine x_callVR (As := [.int (zI q), .int (zI 4)]) (rest := [.int (zI be)]) S hK (p_of_4 l D cs a τ pd ln q (by exact hG) (by omega)) (cwV 2 hts gL_areMeters_X6_of rfl rfl rfl (by decide +kernel) ⟨(Nat.le_of_ble_eq_true rfl), (Nat.le_of_ble_eq_true rfl)⟩) (PW_rc hK hW) hW rfl hl.1 (Nat.le_of_ble_eq_true rfl) dL_areMeters_273 ⟨Nat.zero_le _, Nat.zero_le _⟩ ?_
                                    refine lv_aload_n hx hb dL_areMeters_276 rfl (lv_at hl 15 rfl) ?_
                                    refine lv_iload hx hb dL_areMeters_277 (lv_at hl 1 rfl) ?_
                                    refine x_iconst hx hb dL_areMeters_279 ?_
                                    refine x_callVR (As := [.int (zI q), .int (zI 5)]) (rest := [.int (zI (τ (11 + 13 * q + 3))), .int (zI be)]) S hK (p_of_5 l D cs a τ pd ln q (by exact hG) (by omega)) (cwV 2 hts gL_areMeters_X6_of rfl rfl rfl (by decide +kernel) ⟨(Nat.le_of_ble_eq_true rfl), (Nat.le_of_ble_eq_true rfl)⟩) (PW_rc hK hW) hW rfl hl.1 (Nat.le_of_ble_eq_true rfl) dL_areMeters_280 ⟨Nat.zero_le _, Nat.zero_le _⟩ ?_
                                    refine x_iadd hx hb dL_areMeters_283 ?_
                                    refine lv_goto (tgt := 288) hx hb dL_areMeters_284 (by decide) ?_
                                    refine x_iadd hx hb dL_areMeters_288 ?_
                                    refine lv_istore (lv' := [(13, .int (zI (be + ((τ (11 + 13 * q + 3)) + (τ (11 + 13 * q + 4)))))), (15, .int (zI (orI se (shI 1 q)))), (16, .int (zI q)), (14, .int (zI ((τ (11 + 13 * me + 3)) + (τ (11 + 13 * me + 4))))), (12, .int (zI pw)), (11, .int (zI (fedC τ me))), (10, .int (zI (τ (11 + 13 * me + 0)))), (9, .int (zI me)), (8, .int (zI wo)), (6, .long (zL mo)), (5, .int (zI on)), (4, .int (zI co)), (3, .int (zI tu)), (2, .int (zI br)), (1, .int (zI (τ 7))), (0, .ref (a 0))]) hx hb dL_areMeters_289 hl (by decide) rfl (fun ls hl => ?_)
                                    refine x_iinc (x := q) (lv' := [(16, .int (zI (q + 1))), (13, .int (zI (be + ((τ (11 + 13 * q + 3)) + (τ (11 + 13 * q + 4)))))), (15, .int (zI (orI se (shI 1 q)))), (14, .int (zI ((τ (11 + 13 * me + 3)) + (τ (11 + 13 * me + 4))))), (12, .int (zI pw)), (11, .int (zI (fedC τ me))), (10, .int (zI (τ (11 + 13 * me + 0)))), (9, .int (zI me)), (8, .int (zI wo)), (6, .long (zL mo)), (5, .int (zI on)), (4, .int (zI co)), (3, .int (zI tu)), (2, .int (zI br)), (1, .int (zI (τ 7))), (0, .ref (a 0))]) hx hb dL_areMeters_291 hl (k := 2) rfl (by decide) rfl (fun ls hl => ?_)
                                    refine lv_goto (tgt := 201) hx hb dL_areMeters_294 (by decide) ?_
                                    exact ih201 (q + 1) (orI se (shI 1 q)) (be + ((τ (11 + 13 * q + 3)) + (τ (11 + 13 * q + 4)))) (n3 + 1) (by omega) (by omega) (by omega) (by first | (rw [b3]; exact fd_y b1 (by rw [b3] at c_241; exact c_241)) | (rw [b3]; exact fd_n (by omega) (by omega) b1 (by rw [b3] at c_241; exact c_241)) | (rw [b3]; exact fd_lo (gd_g hG).1 (by omega) (by omega) b1 (by omega) c_225)) (by first | (rw [b4]; exact tb_y b1 c_266) | (rw [b4]; exact tb_n b1 c_266)) ls (lv_sub hl [0, 2, 3, 1, 4, 5, 6, 7, 8, 9, 10, 11, 12, 13, 14, 15] rfl)
                      exact lp201 ((τ 7 - (me + 1)).toNat + 1) (me + 1) (shI 1 me) 0 0 (Nat.lt_succ_self _) (by omega) (by omega) (by rfl) (by rfl) ls (lv_sub hl [0, 1, 2, 3, 4, 5, 6, 7, 8, 9, 10, 11, 12, 13, 14, 15] rfl)
                    · refine lv_iload hx hb dL_areMeters_133 (lv_at hl 0 rfl) ?_
                      refine x_bipush hx hb dL_areMeters_135 (by decide +kernel) ?_
                      refine x_icmp_ge (tgt := 189) hx hb dL_areMeters_137 (by decide) (by omega) (by omega) (fun c_137 => ?_) (fun c_137 => ?_)
                      · exfalso; omega
                      · have hk2 := gd_l hG (k := k) (by omega)
                        refine lv_iload hx hb dL_areMeters_140 (lv_at hl 3 rfl) ?_
                        refine lv_iload hx hb dL_areMeters_142 (lv_at hl 4 rfl) ?_
                        refine lv_aload_n hx hb dL_areMeters_144 rfl (lv_at hl 14 rfl) ?_
                        refine lv_iload hx hb dL_areMeters_145 (lv_at hl 0 rfl) ?_
                        refine x_iconst hx hb dL_areMeters_147 ?_
                        refine x_callVR (As := [.int (zI k), .int (zI 0)]) (rest := [.int (zI (fedC τ me)), .int (zI pw)]) S hK (p_ofLoad_0 l D cs a τ pd ln k (by exact hG) (by omega)) (cwV 2 hts gL_areMeters_X6_ofLoad rfl rfl rfl (by decide +kernel) ⟨(Nat.le_of_ble_eq_true rfl), (Nat.le_of_ble_eq_true rfl)⟩) (PW_rc hK hW) hW rfl hl.1 (Nat.le_of_ble_eq_true rfl) dL_areMeters_148 ⟨Nat.zero_le _, Nat.zero_le _⟩ ?_
                        refine x_ishr hx hb (by omega) (by omega) dL_areMeters_151 ?_
                        refine x_iconst hx hb dL_areMeters_152 ?_
                        refine x_iand hx hb (by exact shr_rng _ hfd) dL_areMeters_153 ?_
                        refine x_iconst hx hb dL_areMeters_154 ?_
                        refine x_icmp_ne (tgt := 179) hx hb dL_areMeters_155 (by decide) (by omega) (by omega) (fun c_155 => ?_) (fun c_155 => ?_)
                        · refine x_iconst hx hb dL_areMeters_179 ?_
                          refine x_iadd hx hb dL_areMeters_180 ?_
                          refine lv_istore (lv' := [(12, .int (zI (pw + 0))), (15, .int (zI k)), (14, .int (zI ((τ (11 + 13 * me + 3)) + (τ (11 + 13 * me + 4))))), (13, .int (zI 0)), (11, .int (zI (fedC τ me))), (10, .int (zI (τ (11 + 13 * me + 0)))), (9, .int (zI me)), (8, .int (zI wo)), (6, .long (zL mo)), (5, .int (zI on)), (4, .int (zI co)), (3, .int (zI tu)), (2, .int (zI br)), (1, .int (zI (τ 7))), (0, .ref (a 0))]) hx hb dL_areMeters_181 hl (by decide) rfl (fun ls hl => ?_)
                          refine x_iinc (x := k) (lv' := [(15, .int (zI (k + 1))), (12, .int (zI (pw + 0))), (14, .int (zI ((τ (11 + 13 * me + 3)) + (τ (11 + 13 * me + 4))))), (13, .int (zI 0)), (11, .int (zI (fedC τ me))), (10, .int (zI (τ (11 + 13 * me + 0)))), (9, .int (zI me)), (8, .int (zI wo)), (6, .long (zL mo)), (5, .int (zI on)), (4, .int (zI co)), (3, .int (zI tu)), (2, .int (zI br)), (1, .int (zI (τ 7))), (0, .ref (a 0))]) hx hb dL_areMeters_183 hl (k := 1) rfl (by decide) rfl (fun ls hl => ?_)
                          refine lv_goto (tgt := 123) hx hb dL_areMeters_186 (by decide) ?_
                          exact ih123 (k + 1) (pw + 0) (n2 + 1) (by omega) (by omega) (by omega) (by first | (rw [a3]; exact cpw_y a1 c_155 c_166) | (rw [a3]; exact cpw_n a1 (fun q => c_155 q.1) hk2.2.2) | (rw [a3]; exact cpw_n a1 (fun q => c_166 q.2) hk2.2.2)) ls (lv_sub hl [0, 2, 3, 1, 4, 5, 6, 7, 8, 9, 10, 11, 12, 13, 14] rfl)
                        · refine lv_aload_n hx hb dL_areMeters_158 rfl (lv_at hl 14 rfl) ?_
                          refine lv_iload hx hb dL_areMeters_159 (lv_at hl 0 rfl) ?_
                          refine x_iconst hx hb dL_areMeters_161 ?_
                          refine x_callVR (As := [.int (zI k), .int (zI 2)]) (rest := [.int (zI pw)]) S hK (p_ofLoad_2 l D cs a τ pd ln k (by exact hG) (by omega)) (cwV 2 hts gL_areMeters_X6_ofLoad rfl rfl rfl (by decide +kernel) ⟨(Nat.le_of_ble_eq_true rfl), (Nat.le_of_ble_eq_true rfl)⟩) (PW_rc hK hW) hW rfl hl.1 (Nat.le_of_ble_eq_true rfl) dL_areMeters_162 ⟨Nat.zero_le _, Nat.zero_le _⟩ ?_
                          refine x_iconst hx hb dL_areMeters_165 ?_
                          refine x_icmp_ne (tgt := 179) hx hb dL_areMeters_166 (by decide) (by omega) (by omega) (fun c_166 => ?_) (fun c_166 => ?_)
                          · refine x_iconst hx hb dL_areMeters_179 ?_
                            refine x_iadd hx hb dL_areMeters_180 ?_
                            refine lv_istore (lv' := [(12, .int (zI (pw + 0))), (15, .int (zI k)), (14, .int (zI ((τ (11 + 13 * me + 3)) + (τ (11 + 13 * me + 4))))), (13, .int (zI 0)), (11, .int (zI (fedC τ me))), (10, .int (zI (τ (11 + 13 * me + 0)))), (9, .int (zI me)), (8, .int (zI wo)), (6, .long (zL mo)), (5, .int (zI on)), (4, .int (zI co)), (3, .int (zI tu)), (2, .int (zI br)), (1, .int (zI (τ 7))), (0, .ref (a 0))]) hx hb dL_areMeters_181 hl (by decide) rfl (fun ls hl => ?_)
                            refine x_iinc (x := k) (lv' := [(15, .int (zI (k + 1))), (12, .int (zI (pw + 0))), (14, .int (zI ((τ (11 + 13 * me + 3)) + (τ (11 + 13 * me + 4))))), (13, .int (zI 0)), (11, .int (zI (fedC τ me))), (10, .int (zI (τ (11 + 13 * me + 0)))), (9, .int (zI me)), (8, .int (zI wo)), (6, .long (zL mo)), (5, .int (zI on)), (4, .int (zI co)), (3, .int (zI tu)), (2, .int (zI br)), (1, .int (zI (τ 7))), (0, .ref (a 0))]) hx hb dL_areMeters_183 hl (k := 1) rfl (by decide) rfl (fun ls hl => ?_)
                            refine lv_goto (tgt := 123) hx hb dL_areMeters_186 (by decide) ?_
                            exact ih123 (k + 1) (pw + 0) (n2 + 1) (by omega) (by omega) (by omega) (by first | (rw [a3]; exact cpw_y a1 c_155 c_166) | (rw [a3]; exact cpw_n a1 (fun q => c_155 q.1) hk2.2.2) | (rw [a3]; exact cpw_n a1 (fun q => c_166 q.2) hk2.2.2)) ls (lv_sub hl [0, 2, 3, 1, 4, 5, 6, 7, 8, 9, 10, 11, 12, 13, 14] rfl)
                          · refine lv_aload_n hx hb dL_areMeters_169 rfl (lv_at hl 14 rfl) ?_
                            refine lv_iload hx hb dL_areMeters_170 (lv_at hl 0 rfl) ?_
                            refine x_iconst hx hb dL_areMeters_172 ?_
                            refine x_callVR (As := [.int (zI k), .int (zI 1)]) (rest := [.int (zI pw)]) S hK (p_ofLoad_1 l D cs a τ pd ln k (by exact hG) (by omega)) (cwV 2 hts gL_areMeters_X6_ofLoad rfl rfl rfl (by decide +kernel) ⟨(Nat.le_of_ble_eq_true rfl), (Nat.le_of_ble_eq_true rfl)⟩) (PW_rc hK hW) hW rfl hl.1 (Nat.le_of_ble_eq_true rfl) dL_areMeters_173 ⟨Nat.zero_le _, Nat.zero_le _⟩ ?_
                            refine lv_goto (tgt := 180) hx hb dL_areMeters_176 (by decide) ?_
                            refine x_iadd hx hb dL_areMeters_180 ?_
                            refine lv_istore (lv' := [(12, .int (zI (pw + (τ (102 + 3 * k + 1))))), (15, .int (zI k)), (14, .int (zI ((τ (11 + 13 * me + 3)) + (τ (11 + 13 * me + 4))))), (13, .int (zI 0)), (11, .int (zI (fedC τ me))), (10, .int (zI (τ (11 + 13 * me + 0)))), (9, .int (zI me)), (8, .int (zI wo)), (6, .long (zL mo)), (5, .int (zI on)), (4, .int (zI co)), (3, .int (zI tu)), (2, .int (zI br)), (1, .int (zI (τ 7))), (0, .ref (a 0))]) hx hb dL_areMeters_181 hl (by decide) rfl (fun ls hl => ?_)
                            refine x_iinc (x := k) (lv' := [(15, .int (zI (k + 1))), (12, .int (zI (pw + (τ (102 + 3 * k + 1))))), (14, .int (zI ((τ (11 + 13 * me + 3)) + (τ (11 + 13 * me + 4))))), (13, .int (zI 0)), (11, .int (zI (fedC τ me))), (10, .int (zI (τ (11 + 13 * me + 0)))), (9, .int (zI me)), (8, .int (zI wo)), (6, .long (zL mo)), (5, .int (zI on)), (4, .int (zI co)), (3, .int (zI tu)), (2, .int (zI br)), (1, .int (zI (τ 7))), (0, .ref (a 0))]) hx hb dL_areMeters_183 hl (k := 1) rfl (by decide) rfl (fun ls hl => ?_)
                            refine lv_goto (tgt := 123) hx hb dL_areMeters_186 (by decide) ?_
                            exact ih123 (k + 1) (pw + (τ (102 + 3 * k + 1))) (n2 + 1) (by omega) (by omega) (by omega) (by first | (rw [a3]; exact cpw_y a1 c_155 c_166) | (rw [a3]; exact cpw_n a1 (fun q => c_155 q.1) hk2.2.2) | (rw [a3]; exact cpw_n a1 (fun q => c_166 q.2) hk2.2.2)) ls (lv_sub hl [0, 2, 3, 1, 4, 5, 6, 7, 8, 9, 10, 11, 12, 13, 14] rfl)
                exact lp123 ((τ 8 - (0 : Int)).toNat + 1) 0 0 0 (Nat.lt_succ_self _) (by omega) (by omega) (by rfl) ls (lv_sub hl [0, 1, 2, 3, 4, 5, 6, 7, 8, 9, 10, 11, 12, 13, 14] rfl)
        exact lp67 ((τ 7 - (0 : Int)).toNat + 1) 0 ((-6)) 0 0 0 0 0 (Nat.lt_succ_self _) (by omega) (by omega) (by rfl) (by rfl) (by rfl) (by exact Or.inl ⟨rfl, rfl, rfl⟩) ls (lv_sub hl [0, 1, 2, 3, 4, 5, 6, 7, 8] rfl)
      · refine lv_iload hx hb dL_areMeters_36 (lv_at hl 0 rfl) ?_
        refine x_bipush hx hb dL_areMeters_38 (by decide +kernel) ?_
        refine x_icmp_ge (tgt := 64) hx hb dL_areMeters_40 (by decide) (by omega) (by omega) (fun c_40 => ?_) (fun c_40 => ?_)
        · exfalso; omega
        · have hl0 := gd_l hG (k := k) (by omega)
          have hon : 0 ≤ on := by rw [i3]; exact onC_nn _ _
          refine lv_iload hx hb dL_areMeters_43 (lv_at hl 3 rfl) ?_
          refine lv_aload_n hx hb dL_areMeters_45 rfl (lv_at hl 8 rfl) ?_
          refine lv_iload hx hb dL_areMeters_46 (lv_at hl 0 rfl) ?_
          refine x_iconst hx hb dL_areMeters_48 ?_
          refine x_callVR (As := [.int (zI k), .int (zI 2)]) (rest := [.int (zI on)]) S hK (p_ofLoad_2 l D cs a τ pd ln k (by exact hG) (by omega)) (cwV 2 hts gL_areMeters_X6_ofLoad rfl rfl rfl (by decide +kernel) ⟨(Nat.le_of_ble_eq_true rfl), (Nat.le_of_ble_eq_true rfl)⟩) (PW_rc hK hW) hW rfl hl.1 (Nat.le_of_ble_eq_true rfl) dL_areMeters_49 ⟨Nat.zero_le _, Nat.zero_le _⟩ ?_
          refine lv_iload hx hb dL_areMeters_52 (lv_at hl 0 rfl) ?_
          refine x_ishl hx hb (by omega) (by omega) dL_areMeters_54 ?_
          refine x_ior hx hb (by omega) (by exact shI_nn (by omega)) dL_areMeters_55 ?_
          refine lv_istore (lv' := [(5, .int (zI (orI on (shI (τ (102 + 3 * k + 2)) k)))), (9, .int (zI k)), (8, .int (zI ((-6)))), (6, .long (zL 0)), (4, .int (zI 0)), (3, .int (zI 0)), (2, .int (zI 0)), (1, .int (zI (τ 7))), (0, .ref (a 0))]) hx hb dL_areMeters_56 hl (by decide) rfl (fun ls hl => ?_)
          refine x_iinc (x := k) (lv' := [(9, .int (zI (k + 1))), (5, .int (zI (orI on (shI (τ (102 + 3 * k + 2)) k)))), (8, .int (zI ((-6)))), (6, .long (zL 0)), (4, .int (zI 0)), (3, .int (zI 0)), (2, .int (zI 0)), (1, .int (zI (τ 7))), (0, .ref (a 0))]) hx hb dL_areMeters_58 hl (k := 1) rfl (by decide) rfl (fun ls hl => ?_)
          refine lv_goto (tgt := 26) hx hb dL_areMeters_61 (by decide) ?_
          exact ih26 (k + 1) (orI on (shI (τ (102 + 3 * k + 2)) k)) (n0 + 1) (by omega) (by omega) (by omega) (by rw [i3]; exact onC_s i1 rfl (gd_l hG (k := k) (by omega)).2.2) ls (lv_sub hl [0, 2, 3, 1, 4, 5, 6, 7, 8] rfl)
  exact lp26 ((τ 8 - (0 : Int)).toNat + 1) 0 0 0 (Nat.lt_succ_self _) (by omega) (by omega) (by rfl) ls (lv_sub hl [0, 1, 2, 3, 4, 5, 6, 7, 8] rfl)
