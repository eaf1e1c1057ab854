set_option maxHeartbeats 4000000 in
set_option maxRecDepth 100000 in
theorem c_X7_put_bad (l : Launch) (D : va_G) (cs : Nat → ClassId) (a : Int → Nat) (σ : Int → Int) (pa : Int → Int) (sl : Int → Int) (sv : Int → Int) (pd : Int → Int) (kn : Int) (ln : Int) (x : Int) (hx : -9223372036854775808 ≤ x ∧ x < 9223372036854775808) (hn0 : ¬ (ptR x 8 = 1 ∧ 0 < ptM x 8)) (hl0 : 0 ≤ ln ∧ ln ≤ 80) : kR D cs l yX7_put wsX7_put ({ frames := 1, cells := 0, slots := 0, locals := 22 } : Room) [.ref (a 0), .long (zL x)] (fun H => mAt D cs a σ pa sl sv pd kn ln H) (some (.int (zI (-2)))) := by
  refine Met.ofW (cc := cX7_put) (maxL := 8) (ret := (some .int)) (by decide) rfl ?_
  intro p e s m args below meth c s₁ B hml hv
  obtain ⟨rfl, hK, hM⟩ := hv
  have hx := B.exec
  have hb := B.bytes
  have hr := B.returns
  have hts := atoms_spec (ws := wsX7_put) B.pre
  have hown : s.vm.findClass RX7 = some m.cls := findClass_of_methodNamed B.named
  have hlocks := B.notSynchronized
  have S : CallFix p m c cX7_put 8 s (([.ref (a 0), .long (zL x)] : List Value)).toArray wsX7_put RX7 := ⟨hx, hb, hml, hown, hts⟩
  have hin7 : ∀ w ∈ wsX70, w ∈ wsX7_put := by decide +kernel
  have hl := lv_entry ([.ref (a 0), .long (zL x)]) (n := 8) (Nat.le_of_ble_eq_true rfl)
  rw [lg_entry_eq]
  generalize (lg_sl ([.ref (a 0), .long (zL x)]) ++ List.replicate (8 - (lg_sl ([.ref (a 0), .long (zL x)])).length) Slot.unset).toArray = ls at hl ⊢
  have hl : lv_has ls 8 [(0, .ref (a 0)), (1, .long (zL x))] := hl
  refine x_iconst hx hb dX7_put_0 ?_
  refine lv_istore_n (lv' := [(3, .int (zI 0)), (0, .ref (a 0)), (1, .long (zL x))]) hx hb dX7_put_1 rfl hl (by decide) rfl (fun ls hl => ?_)
  refine x_iconst hx hb dX7_put_2 ?_
  refine lv_istore (lv' := [(4, .int (zI 1)), (3, .int (zI 0)), (0, .ref (a 0)), (1, .long (zL x))]) hx hb dX7_put_3 hl (by decide) rfl (fun ls hl => ?_)
  refine x_iconst hx hb dX7_put_5 ?_
  refine lv_istore (lv' := [(5, .int (zI 0)), (4, .int (zI 1)), (3, .int (zI 0)), (0, .ref (a 0)), (1, .long (zL x))]) hx hb dX7_put_6 hl (by decide) rfl (fun ls hl => ?_)
  refine x_iconst hx hb dX7_put_8 ?_
  refine lv_istore (lv' := [(6, .int (zI 0)), (5, .int (zI 0)), (4, .int (zI 1)), (3, .int (zI 0)), (0, .ref (a 0)), (1, .long (zL x))]) hx hb dX7_put_9 hl (by decide) rfl (fun ls hl => ?_)
  have lp11 : ∀ (n : Nat) (k : Int) (en : Int) (r : Int) (mny : Int) (n0 : Nat), (8 - k).toNat < n → (0 ≤ k ∧ k ≤ 8) → (k = (n0 : Int)) → (mny = ptM x n0) → (r = ptR x n0) → (en = ptE x n0) → ((r = 0 ∨ r = 1) ∧ (en = 0 ∨ en = 1)) → (0 ≤ mny ∧ mny ≤ k) → ∀ (ls : Array Slot), lv_has ls 8 [(6, .int (zI k)), (5, .int (zI en)), (4, .int (zI r)), (3, .int (zI mny)), (0, .ref (a 0)), (1, .long (zL x))] → W p l e (headSpec wsX7_put ({ frames := 1, cells := 0, slots := 0, locals := 22 } : Room)).room s m ([.ref (a 0), .long (zL x)] : List Value).toArray below meth c s.heap [] 0 0 (MQ below (kS (some (.int (zI (-2))))) ([.ref (a 0), .long (zL x)] : List Value).toArray s 0 0 (fun _ => False)) (F0 m 11 ls []) := by
    intro n
    induction n with
    | zero => intro k en r mny n0 hms; exact absurd hms (Nat.not_lt_zero _)
    | succ n ih =>
      intro k en r mny n0 hms hk0 hn iM iR iE h01 hM0 ls hl
      have ih11 := ih
      clear ih
      refine lv_iload hx hb dX7_put_11 (lv_at hl 0 rfl) ?_
      refine x_bipush hx hb dX7_put_13 (by decide +kernel) ?_
      refine x_icmp_ge (tgt := 105) hx hb dX7_put_15 (by decide) (by omega) (by omega) (fun c_15 => ?_) (fun c_15 => ?_)
      · have h8 : n0 = 8 := by omega
        rw [h8] at iM iR
        refine lv_iload hx hb dX7_put_105 (lv_at hl 2 rfl) ?_
        refine x_if_eq (tgt := 114) hx hb dX7_put_107 (by decide) (by omega) (fun c_107 => ?_) (fun c_107 => ?_)
        · refine x_bipush hx hb dX7_put_114 (by decide +kernel) ?_
          exact x_iretR hx hb hr hlocks (by first | rfl | omega) rfl dX7_put_116
        · refine lv_iload_n hx hb dX7_put_110 rfl (lv_at hl 3 rfl) ?_
          refine x_if_ne (tgt := 117) hx hb dX7_put_111 (by decide) (by omega) (fun c_111 => ?_) (fun c_111 => ?_)
          · exfalso; omega
          · refine x_bipush hx hb dX7_put_114 (by decide +kernel) ?_
            exact x_iretR hx hb hr hlocks (by first | rfl | omega) rfl dX7_put_116
      · refine lv_lload_n hx hb dX7_put_18 rfl (lv_at hl 5 rfl) ?_
        refine x_bipush hx hb dX7_put_19 (by decide +kernel) ?_
        refine lv_iload hx hb dX7_put_21 (lv_at hl 0 rfl) ?_
        refine x_imul hx hb dX7_put_23 ?_
        refine x_lshr (k := k) hx hb (by omega) (by omega) dX7_put_24 ?_
        refine x_ldc2 (v := 255) hx hb hown (hts (.constantLong RX7 164 (zL 255)) (by decide +kernel)) dX7_put_25 ?_
        refine x_land hx hb dX7_put_28 ?_
        refine x_l2i hx hb dX7_put_29 ?_
        refine lv_istore (lv' := [(7, .int (zI (byS x k))), (6, .int (zI k)), (5, .int (zI en)), (4, .int (zI r)), (3, .int (zI mny)), (0, .ref (a 0)), (1, .long (zL x))]) hx hb dX7_put_30 hl (by decide) rfl (fun ls hl => ?_)
        have hby := byS_rng x k
        refine lv_iload hx hb dX7_put_32 (lv_at hl 2 rfl) ?_
        refine x_if_ne (tgt := 42) hx hb dX7_put_34 (by decide) (by omega) (fun c_34 => ?_) (fun c_34 => ?_)
        · refine x_iconst hx hb dX7_put_42 ?_
          refine lv_goto (tgt := 47) hx hb dX7_put_43 (by decide) ?_
          refine lv_istore (lv' := [(5, .int (zI 1)), (7, .int (zI (byS x k))), (6, .int (zI k)), (4, .int (zI r)), (3, .int (zI mny)), (0, .ref (a 0)), (1, .long (zL x))]) hx hb dX7_put_47 hl (by decide) rfl (fun ls hl => ?_)
          have hE1 : (1 : Int) = ptE x (n0 + 1) := by
            show _ = if ptE x n0 = 1 ∨ byS x n0 = 0 then 1 else 0
            rw [← hn]
            split <;> omega
          refine lv_iload hx hb dX7_put_49 (lv_at hl 3 rfl) ?_
          refine x_if_eq (tgt := 83) hx hb dX7_put_51 (by decide) (by omega) (fun c_51 => ?_) (fun c_51 => ?_)
          · refine x_iconst hx hb dX7_put_83 ?_
            refine lv_istore (lv' := [(4, .int (zI 0)), (5, .int (zI 1)), (7, .int (zI (byS x k))), (6, .int (zI k)), (3, .int (zI mny)), (0, .ref (a 0)), (1, .long (zL x))]) hx hb dX7_put_84 hl (by decide) rfl (fun ls hl => ?_)
            refine lv_iload_n hx hb dX7_put_86 rfl (lv_at hl 4 rfl) ?_
            refine lv_iload hx hb dX7_put_87 (lv_at hl 1 rfl) ?_
            refine x_if_eq (tgt := 96) hx hb dX7_put_89 (by decide) (by decide) (fun q => absurd q (by decide)) (fun _ => ?_)
            refine x_iconst hx hb dX7_put_92 ?_
            refine lv_goto (tgt := 97) hx hb dX7_put_93 (by decide) ?_
            refine x_iadd hx hb dX7_put_97 ?_
            refine lv_istore_n (lv' := [(3, .int (zI (mny + 0))), (4, .int (zI 0)), (5, .int (zI 1)), (7, .int (zI (byS x k))), (6, .int (zI k)), (0, .ref (a 0)), (1, .long (zL x))]) hx hb dX7_put_98 rfl hl (by decide) rfl (fun ls hl => ?_)
            refine x_iinc (x := k) (lv' := [(6, .int (zI (k + 1))), (3, .int (zI (mny + 0))), (4, .int (zI 0)), (5, .int (zI 1)), (7, .int (zI (byS x k))), (0, .ref (a 0)), (1, .long (zL x))]) hx hb dX7_put_99 hl (k := 4) rfl (by decide) rfl (fun ls hl => ?_)
            refine lv_goto (tgt := 11) hx hb dX7_put_102 (by decide) ?_
            exact ih11 (k + 1) 1 0 (mny + 0) (n0 + 1) (by omega) (by omega) (by omega) (by show _ = ptM x n0 + (if ptE x (n0 + 1) = 1 then 0 else 1); split <;> omega) (by show _ = if ptR x n0 = 1 ∧ (ptE x (n0 + 1) = 1 → byS x n0 = 0) ∧ (ptE x (n0 + 1) ≠ 1 → 33 ≤ byS x n0 ∧ byS x n0 ≤ 126) then 1 else 0; rw [← hn]; split <;> omega) (by exact hE1) (by omega) (by omega) ls (lv_sub hl [0, 3, 2, 1, 5, 6] rfl)
          · refine lv_iload hx hb dX7_put_54 (lv_at hl 0 rfl) ?_
            refine x_if_eq (tgt := 67) hx hb dX7_put_56 (by decide) (by decide) (fun q => absurd q (by decide)) (fun _ => ?_)
            refine lv_iload hx hb dX7_put_59 (lv_at hl 1 rfl) ?_
            refine x_if_ne (tgt := 83) hx hb dX7_put_61 (by decide) (by omega) (fun c_61 => ?_) (fun c_61 => ?_)
            · refine x_iconst hx hb dX7_put_83 ?_
              refine lv_istore (lv' := [(4, .int (zI 0)), (5, .int (zI 1)), (7, .int (zI (byS x k))), (6, .int (zI k)), (3, .int (zI mny)), (0, .ref (a 0)), (1, .long (zL x))]) hx hb dX7_put_84 hl (by decide) rfl (fun ls hl => ?_)
              refine lv_iload_n hx hb dX7_put_86 rfl (lv_at hl 4 rfl) ?_
              refine lv_iload hx hb dX7_put_87 (lv_at hl 1 rfl) ?_
              refine x_if_eq (tgt := 96) hx hb dX7_put_89 (by decide) (by decide) (fun q => absurd q (by decide)) (fun _ => ?_)
              refine x_iconst hx hb dX7_put_92 ?_
              refine lv_goto (tgt := 97) hx hb dX7_put_93 (by decide) ?_
              refine x_iadd hx hb dX7_put_97 ?_
              refine lv_istore_n (lv' := [(3, .int (zI (mny + 0))), (4, .int (zI 0)), (5, .int (zI 1)), (7, .int (zI (byS x k))), (6, .int (zI k)), (0, .ref (a 0)), (1, .long (zL x))]) hx hb dX7_put_98 rfl hl (by decide) rfl (fun ls hl => ?_)
              refine x_iinc (x := k) (lv' := [(6, .int (zI (k + 1))), (3, .int (zI (mny + 0))), (4, .int (zI 0)), (5, .int (zI 1)), (7, .int (zI (byS x k))), (0, .ref (a 0)), (1, .long (zL x))]) hx hb dX7_put_99 hl (k := 4) rfl (by decide) rfl (fun ls hl => ?_)
              refine lv_goto (tgt := 11) hx hb dX7_put_102 (by decide) ?_
              exact ih11 (k + 1) 1 0 (mny + 0) (n0 + 1) (by omega) (by omega) (by omega) (by show _ = ptM x n0 + (if ptE x (n0 + 1) = 1 then 0 else 1); split <;> omega) (by show _ = if ptR x n0 = 1 ∧ (ptE x (n0 + 1) = 1 → byS x n0 = 0) ∧ (ptE x (n0 + 1) ≠ 1 → 33 ≤ byS x n0 ∧ byS x n0 ≤ 126) then 1 else 0; rw [← hn]; split <;> omega) (by exact hE1) (by omega) (by omega) ls (lv_sub hl [0, 3, 2, 1, 5, 6] rfl)
            · refine lv_goto (tgt := 79) hx hb dX7_put_64 (by decide) ?_
              refine x_iconst hx hb dX7_put_79 ?_
              refine lv_goto (tgt := 84) hx hb dX7_put_80 (by decide) ?_
              refine lv_istore (lv' := [(4, .int (zI 1)), (5, .int (zI 1)), (7, .int (zI (byS x k))), (6, .int (zI k)), (3, .int (zI mny)), (0, .ref (a 0)), (1, .long (zL x))]) hx hb dX7_put_84 hl (by decide) rfl (fun ls hl => ?_)
              refine lv_iload_n hx hb dX7_put_86 rfl (lv_at hl 4 rfl) ?_
              refine lv_iload hx hb dX7_put_87 (lv_at hl 1 rfl) ?_
              refine x_if_eq (tgt := 96) hx hb dX7_put_89 (by decide) (by decide) (fun q => absurd q (by decide)) (fun _ => ?_)
              refine x_iconst hx hb dX7_put_92 ?_
              refine lv_goto (tgt := 97) hx hb dX7_put_93 (by decide) ?_
              refine x_iadd hx hb dX7_put_97 ?_
              refine lv_istore_n (lv' := [(3, .int (zI (mny + 0))), (4, .int (zI 1)), (5, .int (zI 1)), (7, .int (zI (byS x k))), (6, .int (zI k)), (0, .ref (a 0)), (1, .long (zL x))]) hx hb dX7_put_98 rfl hl (by decide) rfl (fun ls hl => ?_)
              refine x_iinc (x := k) (lv' := [(6, .int (zI (k + 1))), (3, .int (zI (mny + 0))), (4, .int (zI 1)), (5, .int (zI 1)), (7, .int (zI (byS x k))), (0, .ref (a 0)), (1, .long (zL x))]) hx hb dX7_put_99 hl (k := 4) rfl (by decide) rfl (fun ls hl => ?_)
              refine lv_goto (tgt := 11) hx hb dX7_put_102 (by decide) ?_
              exact ih11 (k + 1) 1 1 (mny + 0) (n0 + 1) (by omega) (by omega) (by omega) (by show _ = ptM x n0 + (if ptE x (n0 + 1) = 1 then 0 else 1); split <;> omega) (by show _ = if ptR x n0 = 1 ∧ (ptE x (n0 + 1) = 1 → byS x n0 = 0) ∧ (ptE x (n0 + 1) ≠ 1 → 33 ≤ byS x n0 ∧ byS x n0 ≤ 126) then 1 else 0; rw [← hn]; split <;> omega) (by exact hE1) (by omega) (by omega) ls (lv_sub hl [0, 3, 2, 1, 5, 6] rfl)
        · refine lv_iload hx hb dX7_put_37 (lv_at hl 0 rfl) ?_
          refine x_if_ne (tgt := 46) hx hb dX7_put_39 (by decide) (by omega) (fun c_39 => ?_) (fun c_39 => ?_)
          · refine x_iconst hx hb dX7_put_46 ?_
            refine lv_istore (lv' := [(5, .int (zI 0)), (7, .int (zI (byS x k))), (6, .int (zI k)), (4, .int (zI r)), (3, .int (zI mny)), (0, .ref (a 0)), (1, .long (zL x))]) hx hb dX7_put_47 hl (by decide) rfl (fun ls hl => ?_)
            have hE1 : (0 : Int) = ptE x (n0 + 1) := by
              show _ = if ptE x n0 = 1 ∨ byS x n0 = 0 then 1 else 0
              rw [← hn]
              split <;> omega
            refine lv_iload hx hb dX7_put_49 (lv_at hl 3 rfl) ?_
            refine x_if_eq (tgt := 83) hx hb dX7_put_51 (by decide) (by omega) (fun c_51 => ?_) (fun c_51 => ?_)
            · refine x_iconst hx hb dX7_put_83 ?_
              refine lv_istore (lv' := [(4, .int (zI 0)), (5, .int (zI 0)), (7, .int (zI (byS x k))), (6, .int (zI k)), (3, .int (zI mny)), (0, .ref (a 0)), (1, .long (zL x))]) hx hb dX7_put_84 hl (by decide) rfl (fun ls hl => ?_)
              refine lv_iload_n hx hb dX7_put_86 rfl (lv_at hl 4 rfl) ?_
              refine lv_iload hx hb dX7_put_87 (lv_at hl 1 rfl) ?_
              refine x_if_eq (tgt := 96) hx hb dX7_put_89 (by decide) (by decide) (fun _ => ?_) (fun q => absurd q (by decide))
              refine x_iconst hx hb dX7_put_96 ?_
              refine x_iadd hx hb dX7_put_97 ?_
              refine lv_istore_n (lv' := [(3, .int (zI (mny + 1))), (4, .int (zI 0)), (5, .int (zI 0)), (7, .int (zI (byS x k))), (6, .int (zI k)), (0, .ref (a 0)), (1, .long (zL x))]) hx hb dX7_put_98 rfl hl (by decide) rfl (fun ls hl => ?_)
              refine x_iinc (x := k) (lv' := [(6, .int (zI (k + 1))), (3, .int (zI (mny + 1))), (4, .int (zI 0)), (5, .int (zI 0)), (7, .int (zI (byS x k))), (0, .ref (a 0)), (1, .long (zL x))]) hx hb dX7_put_99 hl (k := 4) rfl (by decide) rfl (fun ls hl => ?_)
              refine lv_goto (tgt := 11) hx hb dX7_put_102 (by decide) ?_
              exact ih11 (k + 1) 0 0 (mny + 1) (n0 + 1) (by omega) (by omega) (by omega) (by show _ = ptM x n0 + (if ptE x (n0 + 1) = 1 then 0 else 1); split <;> omega) (by show _ = if ptR x n0 = 1 ∧ (ptE x (n0 + 1) = 1 → byS x n0 = 0) ∧ (ptE x (n0 + 1) ≠ 1 → 33 ≤ byS x n0 ∧ byS x n0 ≤ 126) then 1 else 0; rw [← hn]; split <;> omega) (by exact hE1) (by omega) (by omega) ls (lv_sub hl [0, 3, 2, 1, 5, 6] rfl)
            · refine lv_iload hx hb dX7_put_54 (lv_at hl 0 rfl) ?_
              refine x_if_eq (tgt := 67) hx hb dX7_put_56 (by decide) (by decide) (fun _ => ?_) (fun q => absurd q (by decide))
              refine lv_iload hx hb dX7_put_67 (lv_at hl 1 rfl) ?_
              refine x_bipush hx hb dX7_put_69 (by decide +kernel) ?_
              refine x_bipush hx hb dX7_put_71 (by decide +kernel) ?_
              refine x_callSR (As := [.int (zI (byS x k)), .int (zI 33), .int (zI 126)]) (rest := []) S hK (c_X7_in l D cs (byS x k) 33 126 (by omega) (by omega) (by omega)) (va_cwS 3 hts gX7_put_X7_in rfl rfl rfl (by decide +kernel) ⟨(Nat.le_of_ble_eq_true rfl), (Nat.le_of_ble_eq_true rfl)⟩) trivial rfl hl.1 (Nat.le_of_ble_eq_true rfl) dX7_put_73 ⟨Nat.zero_le _, Nat.zero_le _⟩ ?_
              refine x_ifb_eq (tgt := 83) hx hb dX7_put_76 (by decide)  (fun c_76 => ?_) (fun c_76 => ?_)
              · refine x_iconst hx hb dX7_put_83 ?_
                refine lv_istore (lv' := [(4, .int (zI 0)), (5, .int (zI 0)), (7, .int (zI (byS x k))), (6, .int (zI k)), (3, .int (zI mny)), (0, .ref (a 0)), (1, .long (zL x))]) hx hb dX7_put_84 hl (by decide) rfl (fun ls hl => ?_)
                refine lv_iload_n hx hb dX7_put_86 rfl (lv_at hl 4 rfl) ?_
                refine lv_iload hx hb dX7_put_87 (lv_at hl 1 rfl) ?_
                refine x_if_eq (tgt := 96) hx hb dX7_put_89 (by decide) (by decide) (fun _ => ?_) (fun q => absurd q (by decide))
                refine x_iconst hx hb dX7_put_96 ?_
                refine x_iadd hx hb dX7_put_97 ?_
                refine lv_istore_n (lv' := [(3, .int (zI (mny + 1))), (4, .int (zI 0)), (5, .int (zI 0)), (7, .int (zI (byS x k))), (6, .int (zI k)), (0, .ref (a 0)), (1, .long (zL x))]) hx hb dX7_put_98 rfl hl (by decide) rfl (fun ls hl => ?_)
                refine x_iinc (x := k) (lv' := [(6, .int (zI (k + 1))), (3, .int (zI (mny + 1))), (4, .int (zI 0)), (5, .int (zI 0)), (7, .int (zI (byS x k))), (0, .ref (a 0)), (1, .long (zL x))]) hx hb dX7_put_99 hl (k := 4) rfl (by decide) rfl (fun ls hl => ?_)
                refine lv_goto (tgt := 11) hx hb dX7_put_102 (by decide) ?_
                exact ih11 (k + 1) 0 0 (mny + 1) (n0 + 1) (by omega) (by omega) (by omega) (by show _ = ptM x n0 + (if ptE x (n0 + 1) = 1 then 0 else 1); split <;> omega) (by show _ = if ptR x n0 = 1 ∧ (ptE x (n0 + 1) = 1 → byS x n0 = 0) ∧ (ptE x (n0 + 1) ≠ 1 → 33 ≤ byS x n0 ∧ byS x n0 ≤ 126) then 1 else 0; rw [← hn]; split <;> omega) (by exact hE1) (by omega) (by omega) ls (lv_sub hl [0, 3, 2, 1, 5, 6] rfl)
              · refine x_iconst hx hb dX7_put_79 ?_
                refine lv_goto (tgt := 84) hx hb dX7_put_80 (by decide) ?_
                refine lv_istore (lv' := [(4, .int (zI 1)), (5, .int (zI 0)), (7, .int (zI (byS x k))), (6, .int (zI k)), (3, .int (zI mny)), (0, .ref (a 0)), (1, .long (zL x))]) hx hb dX7_put_84 hl (by decide) rfl (fun ls hl => ?_)
                refine lv_iload_n hx hb dX7_put_86 rfl (lv_at hl 4 rfl) ?_
                refine lv_iload hx hb dX7_put_87 (lv_at hl 1 rfl) ?_
                refine x_if_eq (tgt := 96) hx hb dX7_put_89 (by decide) (by decide) (fun _ => ?_) (fun q => absurd q (by decide))
                refine x_iconst hx hb dX7_put_96 ?_
                refine x_iadd hx hb dX7_put_97 ?_
                refine lv_istore_n (lv' := [(3, .int (zI (mny + 1))), (4, .int (zI 1)), (5, .int (zI 0)), (7, .int (zI (byS x k))), (6, .int (zI k)), (0, .ref (a 0)), (1, .long (zL x))]) hx hb dX7_put_98 rfl hl (by decide) rfl (fun ls hl => ?_)
                refine x_iinc (x := k) (lv' := [(6, .int (zI (k + 1))), (3, .int (zI (mny + 1))), (4, .int (zI 1)), (5, .int (zI 0)), (7, .int (zI (byS x k))), (0, .ref (a 0)), (1, .long (zL x))]) hx hb dX7_put_99 hl (k := 4) rfl (by decide) rfl (fun ls hl => ?_)
                refine lv_goto (tgt := 11) hx hb dX7_put_102 (by decide) ?_
                exact ih11 (k + 1) 0 1 (mny + 1) (n0 + 1) (by omega) (by omega) (by omega) (by show _ = ptM x n0 + (if ptE x (n0 + 1) = 1 then 0 else 1); split <;> omega) (by show _ = if ptR x n0 = 1 ∧ (ptE x (n0 + 1) = 1 → byS x n0 = 0) ∧ (ptE x (n0 + 1) ≠ 1 → 33 ≤ byS x n0 ∧ byS x n0 ≤ 126) then 1 else 0; rw [← hn]; split <;> omega) (by exact hE1) (by omega) (by omega) ls (lv_sub hl [0, 3, 2, 1, 5, 6] rfl)
          · refine x_iconst hx hb dX7_put_42 ?_
            refine lv_goto (tgt := 47) hx hb dX7_put_43 (by decide) ?_
            refine lv_istore (lv' := [(5, .int (zI 1)), (7, .int (zI (byS x k))), (6, .int (zI k)), (4, .int (zI r)), (3, .int (zI mny)), (0, .ref (a 0)), (1, .long (zL x))]) hx hb dX7_put_47 hl (by decide) rfl (fun ls hl => ?_)
            have hE1 : (1 : Int) = ptE x (n0 + 1) := by
              show _ = if ptE x n0 = 1 ∨ byS x n0 = 0 then 1 else 0
              rw [← hn]
              split <;> omega
            refine lv_iload hx hb dX7_put_49 (lv_at hl 3 rfl) ?_
            refine x_if_eq (tgt := 83) hx hb dX7_put_51 (by decide) (by omega) (fun c_51 => ?_) (fun c_51 => ?_)
            · refine x_iconst hx hb dX7_put_83 ?_
              refine lv_istore (lv' := [(4, .int (zI 0)), (5, .int (zI 1)), (7, .int (zI (byS x k))), (6, .int (zI k)), (3, .int (zI mny)), (0, .ref (a 0)), (1, .long (zL x))]) hx hb dX7_put_84 hl (by decide) rfl (fun ls hl => ?_)
              refine lv_iload_n hx hb dX7_put_86 rfl (lv_at hl 4 rfl) ?_
              refine lv_iload hx hb dX7_put_87 (lv_at hl 1 rfl) ?_
              refine x_if_eq (tgt := 96) hx hb dX7_put_89 (by decide) (by decide) (fun q => absurd q (by decide)) (fun _ => ?_)
              refine x_iconst hx hb dX7_put_92 ?_
              refine lv_goto (tgt := 97) hx hb dX7_put_93 (by decide) ?_
              refine x_iadd hx hb dX7_put_97 ?_
              refine lv_istore_n (lv' := [(3, .int (zI (mny + 0))), (4, .int (zI 0)), (5, .int (zI 1)), (7, .int (zI (byS x k))), (6, .int (zI k)), (0, .ref (a 0)), (1, .long (zL x))]) hx hb dX7_put_98 rfl hl (by decide) rfl (fun ls hl => ?_)
              refine x_iinc (x := k) (lv' := [(6, .int (zI (k + 1))), (3, .int (zI (mny + 0))), (4, .int (zI 0)), (5, .int (zI 1)), (7, .int (zI (byS x k))), (0, .ref (a 0)), (1, .long (zL x))]) hx hb dX7_put_99 hl (k := 4) rfl (by decide) rfl (fun ls hl => ?_)
              refine lv_goto (tgt := 11) hx hb dX7_put_102 (by decide) ?_
              exact ih11 (k + 1) 1 0 (mny + 0) (n0 + 1) (by omega) (by omega) (by omega) (by show _ = ptM x n0 + (if ptE x (n0 + 1) = 1 then 0 else 1); split <;> omega) (by show _ = if ptR x n0 = 1 ∧ (ptE x (n0 + 1) = 1 → byS x n0 = 0) ∧ (ptE x (n0 + 1) ≠ 1 → 33 ≤ byS x n0 ∧ byS x n0 ≤ 126) then 1 else 0; rw [← hn]; split <;> omega) (by exact hE1) (by omega) (by omega) ls (lv_sub hl [0, 3, 2, 1, 5, 6] rfl)
            · refine lv_iload hx hb dX7_put_54 (lv_at hl 0 rfl) ?_
              refine x_if_eq (tgt := 67) hx hb dX7_put_56 (by decide) (by decide) (fun q => absurd q (by decide)) (fun _ => ?_)
              refine lv_iload hx hb dX7_put_59 (lv_at hl 1 rfl) ?_
              refine x_if_ne (tgt := 83) hx hb dX7_put_61 (by decide) (by omega) (fun c_61 => ?_) (fun c_61 => ?_)
              · refine x_iconst hx hb dX7_put_83 ?_
                refine lv_istore (lv' := [(4, .int (zI 0)), (5, .int (zI 1)), (7, .int (zI (byS x k))), (6, .int (zI k)), (3, .int (zI mny)), (0, .ref (a 0)), (1, .long (zL x))]) hx hb dX7_put_84 hl (by decide) rfl (fun ls hl => ?_)
                refine lv_iload_n hx hb dX7_put_86 rfl (lv_at hl 4 rfl) ?_
                refine lv_iload hx hb dX7_put_87 (lv_at hl 1 rfl) ?_
                refine x_if_eq (tgt := 96) hx hb dX7_put_89 (by decide) (by decide) (fun q => absurd q (by decide)) (fun _ => ?_)
                refine x_iconst hx hb dX7_put_92 ?_
                refine lv_goto (tgt := 97) hx hb dX7_put_93 (by decide) ?_
                refine x_iadd hx hb dX7_put_97 ?_
                refine lv_istore_n (lv' := [(3, .int (zI (mny + 0))), (4, .int (zI 0)), (5, .int (zI 1)), (7, .int (zI (byS x k))), (6, .int (zI k)), (0, .ref (a 0)), (1, .long (zL x))]) hx hb dX7_put_98 rfl hl (by decide) rfl (fun ls hl => ?_)
                refine x_iinc (x := k) (lv' := [(6, .int (zI (k + 1))), (3, .int (zI (mny + 0))), (4, .int (zI 0)), (5, .int (zI 1)), (7, .int (zI (byS x k))), (0, .ref (a 0)), (1, .long (zL x))]) hx hb dX7_put_99 hl (k := 4) rfl (by decide) rfl (fun ls hl => ?_)
                refine lv_goto (tgt := 11) hx hb dX7_put_102 (by decide) ?_
                exact ih11 (k + 1) 1 0 (mny + 0) (n0 + 1) (by omega) (by omega) (by omega) (by show _ = ptM x n0 + (if ptE x (n0 + 1) = 1 then 0 else 1); split <;> omega) (by show _ = if ptR x n0 = 1 ∧ (ptE x (n0 + 1) = 1 → byS x n0 = 0) ∧ (ptE x (n0 + 1) ≠ 1 → 33 ≤ byS x n0 ∧ byS x n0 ≤ 126) then 1 else 0; rw [← hn]; split <;> omega) (by exact hE1) (by omega) (by omega) ls (lv_sub hl [0, 3, 2, 1, 5, 6] rfl)
              · refine lv_goto (tgt := 79) hx hb dX7_put_64 (by decide) ?_
                refine x_iconst hx hb dX7_put_79 ?_
                refine lv_goto (tgt := 84) hx hb dX7_put_80 (by decide) ?_
                refine lv_istore (lv' := [(4, .int (zI 1)), (5, .int (zI 1)), (7, .int (zI (byS x k))), (6, .int (zI k)), (3, .int (zI mny)), (0, .ref (a 0)), (1, .long (zL x))]) hx hb dX7_put_84 hl (by decide) rfl (fun ls hl => ?_)
                refine lv_iload_n hx hb dX7_put_86 rfl (lv_at hl 4 rfl) ?_
                refine lv_iload hx hb dX7_put_87 (lv_at hl 1 rfl) ?_
                refine x_if_eq (tgt := 96) hx hb dX7_put_89 (by decide) (by decide) (fun q => absurd q (by decide)) (fun _ => ?_)
                refine x_iconst hx hb dX7_put_92 ?_
                refine lv_goto (tgt := 97) hx hb dX7_put_93 (by decide) ?_
                refine x_iadd hx hb dX7_put_97 ?_
                refine lv_istore_n (lv' := [(3, .int (zI (mny + 0))), (4, .int (zI 1)), (5, .int (zI 1)), (7, .int (zI (byS x k))), (6, .int (zI k)), (0, .ref (a 0)), (1, .long (zL x))]) hx hb dX7_put_98 rfl hl (by decide) rfl (fun ls hl => ?_)
                refine x_iinc (x := k) (lv' := [(6, .int (zI (k + 1))), (3, .int (zI (mny + 0))), (4, .int (zI 1)), (5, .int (zI 1)), (7, .int (zI (byS x k))), (0, .ref (a 0)), (1, .long (zL x))]) hx hb dX7_put_99 hl (k := 4) rfl (by decide) rfl (fun ls hl => ?_)
                refine lv_goto (tgt := 11) hx hb dX7_put_102 (by decide) ?_
                exact ih11 (k + 1) 1 1 (mny + 0) (n0 + 1) (by omega) (by omega) (by omega) (by show _ = ptM x n0 + (if ptE x (n0 + 1) = 1 then 0 else 1); split <;> omega) (by show _ = if ptR x n0 = 1 ∧ (ptE x (n0 + 1) = 1 → byS x n0 = 0) ∧ (ptE x (n0 + 1) ≠ 1 → 33 ≤ byS x n0 ∧ byS x n0 ≤ 126) then 1 else 0; rw [← hn]; split <;> omega) (by exact hE1) (by omega) (by omega) ls (lv_sub hl [0, 3, 2, 1, 5, 6] rfl)
  exact lp11 ((8 - (0 : Int)).toNat + 1) 0 0 1 0 0 (Nat.lt_succ_self _) (by omega) (by omega) (by rfl) (by rfl) (by rfl) (by omega) (by omega) ls (lv_sub hl [0, 1, 2, 3, 4, 5] rfl)
set_option maxHeartbeats 4000000 in
set_option maxRecDepth 100000 in
theorem c_X7_put_many (l : Launch) (D : va_G) (cs : Nat → ClassId) (a : Int → Nat) (σ : Int → Int) (pa : Int → Int) (sl : Int → Int) (sv : Int → Int) (pd : Int → Int) (kn : Int) (ln : Int) (x : Int) (hx : -9223372036854775808 ≤ x ∧ x < 9223372036854775808) (hn0 : ptR x 8 = 1 ∧ 0 < ptM x 8) (hmm : 80 < ln + ptM x 8) (hl0 : 0 ≤ ln ∧ ln ≤ 80) : kR D cs l yX7_put wsX7_put ({ frames := 1, cells := 0, slots := 0, locals := 22 } : Room) [.ref (a 0), .long (zL x)] (fun H => mAt D cs a σ pa sl sv pd kn ln H) (some (.int (zI (-4)))) := by
  refine Met.ofW (cc := cX7_put) (maxL := 8) (ret := (some .int)) (by decide) rfl ?_
  intro p e s m args below meth c s₁ B hml hv
  obtain ⟨rfl, hK, hM⟩ := hv
  have hx := B.exec
  have hb := B.bytes
  have hr := B.returns
  have hts := atoms_spec (ws := wsX7_put) B.pre
  have hown : s.vm.findClass RX7 = some m.cls := findClass_of_methodNamed B.named
  have hlocks := B.notSynchronized
  have S : CallFix p m c cX7_put 8 s (([.ref (a 0), .long (zL x)] : List Value)).toArray wsX7_put RX7 := ⟨hx, hb, hml, hown, hts⟩
  have hin7 : ∀ w ∈ wsX70, w ∈ wsX7_put := by decide +kernel
  have hl := lv_entry ([.ref (a 0), .long (zL x)]) (n := 8) (Nat.le_of_ble_eq_true rfl)
  rw [lg_entry_eq]
  generalize (lg_sl ([.ref (a 0), .long (zL x)]) ++ List.replicate (8 - (lg_sl ([.ref (a 0), .long (zL x)])).length) Slot.unset).toArray = ls at hl ⊢
  have hl : lv_has ls 8 [(0, .ref (a 0)), (1, .long (zL x))] := hl
  refine x_iconst hx hb dX7_put_0 ?_
  refine lv_istore_n (lv' := [(3, .int (zI 0)), (0, .ref (a 0)), (1, .long (zL x))]) hx hb dX7_put_1 rfl hl (by decide) rfl (fun ls hl => ?_)
  refine x_iconst hx hb dX7_put_2 ?_
  refine lv_istore (lv' := [(4, .int (zI 1)), (3, .int (zI 0)), (0, .ref (a 0)), (1, .long (zL x))]) hx hb dX7_put_3 hl (by decide) rfl (fun ls hl => ?_)
  refine x_iconst hx hb dX7_put_5 ?_
  refine lv_istore (lv' := [(5, .int (zI 0)), (4, .int (zI 1)), (3, .int (zI 0)), (0, .ref (a 0)), (1, .long (zL x))]) hx hb dX7_put_6 hl (by decide) rfl (fun ls hl => ?_)
  refine x_iconst hx hb dX7_put_8 ?_
  refine lv_istore (lv' := [(6, .int (zI 0)), (5, .int (zI 0)), (4, .int (zI 1)), (3, .int (zI 0)), (0, .ref (a 0)), (1, .long (zL x))]) hx hb dX7_put_9 hl (by decide) rfl (fun ls hl => ?_)
  have lp11 : ∀ (n : Nat) (k : Int) (en : Int) (r : Int) (mny : Int) (n0 : Nat), (8 - k).toNat < n → (0 ≤ k ∧ k ≤ 8) → (k = (n0 : Int)) → (mny = ptM x n0) → (r = ptR x n0) → (en = ptE x n0) → ((r = 0 ∨ r = 1) ∧ (en = 0 ∨ en = 1)) → (0 ≤ mny ∧ mny ≤ k) → ∀ (ls : Array Slot), lv_has ls 8 [(6, .int (zI k)), (5, .int (zI en)), (4, .int (zI r)), (3, .int (zI mny)), (0, .ref (a 0)), (1, .long (zL x))] → W p l e (headSpec wsX7_put ({ frames := 1, cells := 0, slots := 0, locals := 22 } : Room)).room s m ([.ref (a 0), .long (zL x)] : List Value).toArray below meth c s.heap [] 0 0 (MQ below (kS (some (.int (zI (-4))))) ([.ref (a 0), .long (zL x)] : List Value).toArray s 0 0 (fun _ => False)) (F0 m 11 ls []) := by
    intro n
    induction n with
    | zero => intro k en r mny n0 hms; exact absurd hms (Nat.not_lt_zero _)
    | succ n ih =>
      intro k en r mny n0 hms hk0 hn iM iR iE h01 hM0 ls hl
      have ih11 := ih
      clear ih
      refine lv_iload hx hb dX7_put_11 (lv_at hl 0 rfl) ?_
      refine x_bipush hx hb dX7_put_13 (by decide +kernel) ?_
      refine x_icmp_ge (tgt := 105) hx hb dX7_put_15 (by decide) (by omega) (by omega) (fun c_15 => ?_) (fun c_15 => ?_)
      · have h8 : n0 = 8 := by omega
        rw [h8] at iM iR
        refine lv_iload hx hb dX7_put_105 (lv_at hl 2 rfl) ?_
        refine x_if_eq (tgt := 114) hx hb dX7_put_107 (by decide) (by omega) (fun c_107 => ?_) (fun c_107 => ?_)
        · exfalso; omega
        · refine lv_iload_n hx hb dX7_put_110 rfl (lv_at hl 3 rfl) ?_
          refine x_if_ne (tgt := 117) hx hb dX7_put_111 (by decide) (by omega) (fun c_111 => ?_) (fun c_111 => ?_)
          · refine lv_aload_n hx hb dX7_put_117 rfl (lv_at hl 4 rfl) ?_
            refine m_g_length S hin7 hK hM (hts (.fieldLink RX7 135 "EnergyDiscsModel" "length" "I") (by decide +kernel)) dX7_put_118 ?_
            refine lv_iload_n hx hb dX7_put_121 rfl (lv_at hl 3 rfl) ?_
            refine x_iadd hx hb dX7_put_122 ?_
            refine x_bipush hx hb dX7_put_123 (by decide +kernel) ?_
            refine x_icmp_le (tgt := 131) hx hb dX7_put_125 (by decide) (by omega) (by omega) (fun c_125 => ?_) (fun c_125 => ?_)
            · exfalso; omega
            · refine x_bipush hx hb dX7_put_128 (by decide +kernel) ?_
              exact x_iretR hx hb hr hlocks (by first | rfl | omega) rfl dX7_put_130
          · exfalso; omega
      · refine lv_lload_n hx hb dX7_put_18 rfl (lv_at hl 5 rfl) ?_
        refine x_bipush hx hb dX7_put_19 (by decide +kernel) ?_
        refine lv_iload hx hb dX7_put_21 (lv_at hl 0 rfl) ?_
        refine x_imul hx hb dX7_put_23 ?_
        refine x_lshr (k := k) hx hb (by omega) (by omega) dX7_put_24 ?_
        refine x_ldc2 (v := 255) hx hb hown (hts (.constantLong RX7 164 (zL 255)) (by decide +kernel)) dX7_put_25 ?_
        refine x_land hx hb dX7_put_28 ?_
        refine x_l2i hx hb dX7_put_29 ?_
        refine lv_istore (lv' := [(7, .int (zI (byS x k))), (6, .int (zI k)), (5, .int (zI en)), (4, .int (zI r)), (3, .int (zI mny)), (0, .ref (a 0)), (1, .long (zL x))]) hx hb dX7_put_30 hl (by decide) rfl (fun ls hl => ?_)
        have hby := byS_rng x k
        refine lv_iload hx hb dX7_put_32 (lv_at hl 2 rfl) ?_
        refine x_if_ne (tgt := 42) hx hb dX7_put_34 (by decide) (by omega) (fun c_34 => ?_) (fun c_34 => ?_)
        · refine x_iconst hx hb dX7_put_42 ?_
          refine lv_goto (tgt := 47) hx hb dX7_put_43 (by decide) ?_
          refine lv_istore (lv' := [(5, .int (zI 1)), (7, .int (zI (byS x k))), (6, .int (zI k)), (4, .int (zI r)), (3, .int (zI mny)), (0, .ref (a 0)), (1, .long (zL x))]) hx hb dX7_put_47 hl (by decide) rfl (fun ls hl => ?_)
          have hE1 : (1 : Int) = ptE x (n0 + 1) := by
            show _ = if ptE x n0 = 1 ∨ byS x n0 = 0 then 1 else 0
            rw [← hn]
            split <;> omega
          refine lv_iload hx hb dX7_put_49 (lv_at hl 3 rfl) ?_
          refine x_if_eq (tgt := 83) hx hb dX7_put_51 (by decide) (by omega) (fun c_51 => ?_) (fun c_51 => ?_)
          · refine x_iconst hx hb dX7_put_83 ?_
            refine lv_istore (lv' := [(4, .int (zI 0)), (5, .int (zI 1)), (7, .int (zI (byS x k))), (6, .int (zI k)), (3, .int (zI mny)), (0, .ref (a 0)), (1, .long (zL x))]) hx hb dX7_put_84 hl (by decide) rfl (fun ls hl => ?_)
            refine lv_iload_n hx hb dX7_put_86 rfl (lv_at hl 4 rfl) ?_
            refine lv_iload hx hb dX7_put_87 (lv_at hl 1 rfl) ?_
            refine x_if_eq (tgt := 96) hx hb dX7_put_89 (by decide) (by decide) (fun q => absurd q (by decide)) (fun _ => ?_)
            refine x_iconst hx hb dX7_put_92 ?_
            refine lv_goto (tgt := 97) hx hb dX7_put_93 (by decide) ?_
            refine x_iadd hx hb dX7_put_97 ?_
            refine lv_istore_n (lv' := [(3, .int (zI (mny + 0))), (4, .int (zI 0)), (5, .int (zI 1)), (7, .int (zI (byS x k))), (6, .int (zI k)), (0, .ref (a 0)), (1, .long (zL x))]) hx hb dX7_put_98 rfl hl (by decide) rfl (fun ls hl => ?_)
            refine x_iinc (x := k) (lv' := [(6, .int (zI (k + 1))), (3, .int (zI (mny + 0))), (4, .int (zI 0)), (5, .int (zI 1)), (7, .int (zI (byS x k))), (0, .ref (a 0)), (1, .long (zL x))]) hx hb dX7_put_99 hl (k := 4) rfl (by decide) rfl (fun ls hl => ?_)
            refine lv_goto (tgt := 11) hx hb dX7_put_102 (by decide) ?_
            exact ih11 (k + 1) 1 0 (mny + 0) (n0 + 1) (by omega) (by omega) (by omega) (by show _ = ptM x n0 + (if ptE x (n0 + 1) = 1 then 0 else 1); split <;> omega) (by show _ = if ptR x n0 = 1 ∧ (ptE x (n0 + 1) = 1 → byS x n0 = 0) ∧ (ptE x (n0 + 1) ≠ 1 → 33 ≤ byS x n0 ∧ byS x n0 ≤ 126) then 1 else 0; rw [← hn]; split <;> omega) (by exact hE1) (by omega) (by omega) ls (lv_sub hl [0, 3, 2, 1, 5, 6] rfl)
          · refine lv_iload hx hb dX7_put_54 (lv_at hl 0 rfl) ?_
            refine x_if_eq (tgt := 67) hx hb dX7_put_56 (by decide) (by decide) (fun q => absurd q (by decide)) (fun _ => ?_)
            refine lv_iload hx hb dX7_put_59 (lv_at hl 1 rfl) ?_
            refine x_if_ne (tgt := 83) hx hb dX7_put_61 (by decide) (by omega) (fun c_61 => ?_) (fun c_61 => ?_)
            · refine x_iconst hx hb dX7_put_83 ?_
              refine lv_istore (lv' := [(4, .int (zI 0)), (5, .int (zI 1)), (7, .int (zI (byS x k))), (6, .int (zI k)), (3, .int (zI mny)), (0, .ref (a 0)), (1, .long (zL x))]) hx hb dX7_put_84 hl (by decide) rfl (fun ls hl => ?_)
              refine lv_iload_n hx hb dX7_put_86 rfl (lv_at hl 4 rfl) ?_
              refine lv_iload hx hb dX7_put_87 (lv_at hl 1 rfl) ?_
              refine x_if_eq (tgt := 96) hx hb dX7_put_89 (by decide) (by decide) (fun q => absurd q (by decide)) (fun _ => ?_)
              refine x_iconst hx hb dX7_put_92 ?_
              refine lv_goto (tgt := 97) hx hb dX7_put_93 (by decide) ?_
              refine x_iadd hx hb dX7_put_97 ?_
              refine lv_istore_n (lv' := [(3, .int (zI (mny + 0))), (4, .int (zI 0)), (5, .int (zI 1)), (7, .int (zI (byS x k))), (6, .int (zI k)), (0, .ref (a 0)), (1, .long (zL x))]) hx hb dX7_put_98 rfl hl (by decide) rfl (fun ls hl => ?_)
              refine x_iinc (x := k) (lv' := [(6, .int (zI (k + 1))), (3, .int (zI (mny + 0))), (4, .int (zI 0)), (5, .int (zI 1)), (7, .int (zI (byS x k))), (0, .ref (a 0)), (1, .long (zL x))]) hx hb dX7_put_99 hl (k := 4) rfl (by decide) rfl (fun ls hl => ?_)
              refine lv_goto (tgt := 11) hx hb dX7_put_102 (by decide) ?_
              exact ih11 (k + 1) 1 0 (mny + 0) (n0 + 1) (by omega) (by omega) (by omega) (by show _ = ptM x n0 + (if ptE x (n0 + 1) = 1 then 0 else 1); split <;> omega) (by show _ = if ptR x n0 = 1 ∧ (ptE x (n0 + 1) = 1 → byS x n0 = 0) ∧ (ptE x (n0 + 1) ≠ 1 → 33 ≤ byS x n0 ∧ byS x n0 ≤ 126) then 1 else 0; rw [← hn]; split <;> omega) (by exact hE1) (by omega) (by omega) ls (lv_sub hl [0, 3, 2, 1, 5, 6] rfl)
            · refine lv_goto (tgt := 79) hx hb dX7_put_64 (by decide) ?_
              refine x_iconst hx hb dX7_put_79 ?_
              refine lv_goto (tgt := 84) hx hb dX7_put_80 (by decide) ?_
              refine lv_istore (lv' := [(4, .int (zI 1)), (5, .int (zI 1)), (7, .int (zI (byS x k))), (6, .int (zI k)), (3, .int (zI mny)), (0, .ref (a 0)), (1, .long (zL x))]) hx hb dX7_put_84 hl (by decide) rfl (fun ls hl => ?_)
              refine lv_iload_n hx hb dX7_put_86 rfl (lv_at hl 4 rfl) ?_
              refine lv_iload hx hb dX7_put_87 (lv_at hl 1 rfl) ?_
              refine x_if_eq (tgt := 96) hx hb dX7_put_89 (by decide) (by decide) (fun q => absurd q (by decide)) (fun _ => ?_)
              refine x_iconst hx hb dX7_put_92 ?_
              refine lv_goto (tgt := 97) hx hb dX7_put_93 (by decide) ?_
              refine x_iadd hx hb dX7_put_97 ?_
              refine lv_istore_n (lv' := [(3, .int (zI (mny + 0))), (4, .int (zI 1)), (5, .int (zI 1)), (7, .int (zI (byS x k))), (6, .int (zI k)), (0, .ref (a 0)), (1, .long (zL x))]) hx hb dX7_put_98 rfl hl (by decide) rfl (fun ls hl => ?_)
              refine x_iinc (x := k) (lv' := [(6, .int (zI (k + 1))), (3, .int (zI (mny + 0))), (4, .int (zI 1)), (5, .int (zI 1)), (7, .int (zI (byS x k))), (0, .ref (a 0)), (1, .long (zL x))]) hx hb dX7_put_99 hl (k := 4) rfl (by decide) rfl (fun ls hl => ?_)
              refine lv_goto (tgt := 11) hx hb dX7_put_102 (by decide) ?_
              exact ih11 (k + 1) 1 1 (mny + 0) (n0 + 1) (by omega) (by omega) (by omega) (by show _ = ptM x n0 + (if ptE x (n0 + 1) = 1 then 0 else 1); split <;> omega) (by show _ = if ptR x n0 = 1 ∧ (ptE x (n0 + 1) = 1 → byS x n0 = 0) ∧ (ptE x (n0 + 1) ≠ 1 → 33 ≤ byS x n0 ∧ byS x n0 ≤ 126) then 1 else 0; rw [← hn]; split <;> omega) (by exact hE1) (by omega) (by omega) ls (lv_sub hl [0, 3, 2, 1, 5, 6] rfl)
        · refine lv_iload hx hb dX7_put_37 (lv_at hl 0 rfl) ?_
          refine x_if_ne (tgt := 46) hx hb dX7_put_39 (by decide) (by omega) (fun c_39 => ?_) (fun c_39 => ?_)
          · refine x_iconst hx hb dX7_put_46 ?_
            refine lv_istore (lv' := [(5, .int (zI 0)), (7, .int (zI (byS x k))), (6, .int (zI k)), (4, .int (zI r)), (3, .int (zI mny)), (0, .ref (a 0)), (1, .long (zL x))]) hx hb dX7_put_47 hl (by decide) rfl (fun ls hl => ?_)
            have hE1 : (0 : Int) = ptE x (n0 + 1) := by
              show _ = if ptE x n0 = 1 ∨ byS x n0 = 0 then 1 else 0
              rw [← hn]
              split <;> omega
            refine lv_iload hx hb dX7_put_49 (lv_at hl 3 rfl) ?_
            refine x_if_eq (tgt := 83) hx hb dX7_put_51 (by decide) (by omega) (fun c_51 => ?_) (fun c_51 => ?_)
            · refine x_iconst hx hb dX7_put_83 ?_
              refine lv_istore (lv' := [(4, .int (zI 0)), (5, .int (zI 0)), (7, .int (zI (byS x k))), (6, .int (zI k)), (3, .int (zI mny)), (0, .ref (a 0)), (1, .long (zL x))]) hx hb dX7_put_84 hl (by decide) rfl (fun ls hl => ?_)
              refine lv_iload_n hx hb dX7_put_86 rfl (lv_at hl 4 rfl) ?_
              refine lv_iload hx hb dX7_put_87 (lv_at hl 1 rfl) ?_
              refine x_if_eq (tgt := 96) hx hb dX7_put_89 (by decide) (by decide) (fun _ => ?_) (fun q => absurd q (by decide))
              refine x_iconst hx hb dX7_put_96 ?_
              refine x_iadd hx hb dX7_put_97 ?_
              refine lv_istore_n (lv' := [(3, .int (zI (mny + 1))), (4, .int (zI 0)), (5, .int (zI 0)), (7, .int (zI (byS x k))), (6, .int (zI k)), (0, .ref (a 0)), (1, .long (zL x))]) hx hb dX7_put_98 rfl hl (by decide) rfl (fun ls hl => ?_)
              refine x_iinc (x := k) (lv' := [(6, .int (zI (k + 1))), (3, .int (zI (mny + 1))), (4, .int (zI 0)), (5, .int (zI 0)), (7, .int (zI (byS x k))), (0, .ref (a 0)), (1, .long (zL x))]) hx hb dX7_put_99 hl (k := 4) rfl (by decide) rfl (fun ls hl => ?_)
              refine lv_goto (tgt := 11) hx hb dX7_put_102 (by decide) ?_
              exact ih11 (k + 1) 0 0 (mny + 1) (n0 + 1) (by omega) (by omega) (by omega) (by show _ = ptM x n0 + (if ptE x (n0 + 1) = 1 then 0 else 1); split <;> omega) (by show _ = if ptR x n0 = 1 ∧ (ptE x (n0 + 1) = 1 → byS x n0 = 0) ∧ (ptE x (n0 + 1) ≠ 1 → 33 ≤ byS x n0 ∧ byS x n0 ≤ 126) then 1 else 0; rw [← hn]; split <;> omega) (by exact hE1) (by omega) (by omega) ls (lv_sub hl [0, 3, 2, 1, 5, 6] rfl)
            · refine lv_iload hx hb dX7_put_54 (lv_at hl 0 rfl) ?_
              refine x_if_eq (tgt := 67) hx hb dX7_put_56 (by decide) (by decide) (fun _ => ?_) (fun q => absurd q (by decide))
              refine lv_iload hx hb dX7_put_67 (lv_at hl 1 rfl) ?_
              refine x_bipush hx hb dX7_put_69 (by decide +kernel) ?_
              refine x_bipush hx hb dX7_put_71 (by decide +kernel) ?_
              refine x_callSR (As := [.int (zI (byS x k)), .int (zI 33), .int (zI 126)]) (rest := []) S hK (c_X7_in l D cs (byS x k) 33 126 (by omega) (by omega) (by omega)) (va_cwS 3 hts gX7_put_X7_in rfl rfl rfl (by decide +kernel) ⟨(Nat.le_of_ble_eq_true rfl), (Nat.le_of_ble_eq_true rfl)⟩) trivial rfl hl.1 (Nat.le_of_ble_eq_true rfl) dX7_put_73 ⟨Nat.zero_le _, Nat.zero_le _⟩ ?_
              refine x_ifb_eq (tgt := 83) hx hb dX7_put_76 (by decide)  (fun c_76 => ?_) (fun c_76 => ?_)
              · refine x_iconst hx hb dX7_put_83 ?_
                refine lv_istore (lv' := [(4, .int (zI 0)), (5, .int (zI 0)), (7, .int (zI (byS x k))), (6, .int (zI k)), (3, .int (zI mny)), (0, .ref (a 0)), (1, .long (zL x))]) hx hb dX7_put_84 hl (by decide) rfl (fun ls hl => ?_)
                refine lv_iload_n hx hb dX7_put_86 rfl (lv_at hl 4 rfl) ?_
                refine lv_iload hx hb dX7_put_87 (lv_at hl 1 rfl) ?_
                refine x_if_eq (tgt := 96) hx hb dX7_put_89 (by decide) (by decide) (fun _ => ?_) (fun q => absurd q (by decide))
                refine x_iconst hx hb dX7_put_96 ?_
                refine x_iadd hx hb dX7_put_97 ?_
                refine lv_istore_n (lv' := [(3, .int (zI (mny + 1))), (4, .int (zI 0)), (5, .int (zI 0)), (7, .int (zI (byS x k))), (6, .int (zI k)), (0, .ref (a 0)), (1, .long (zL x))]) hx hb dX7_put_98 rfl hl (by decide) rfl (fun ls hl => ?_)
                refine x_iinc (x := k) (lv' := [(6, .int (zI (k + 1))), (3, .int (zI (mny + 1))), (4, .int (zI 0)), (5, .int (zI 0)), (7, .int (zI (byS x k))), (0, .ref (a 0)), (1, .long (zL x))]) hx hb dX7_put_99 hl (k := 4) rfl (by decide) rfl (fun ls hl => ?_)
                refine lv_goto (tgt := 11) hx hb dX7_put_102 (by decide) ?_
                exact ih11 (k + 1) 0 0 (mny + 1) (n0 + 1) (by omega) (by omega) (by omega) (by show _ = ptM x n0 + (if ptE x (n0 + 1) = 1 then 0 else 1); split <;> omega) (by show _ = if ptR x n0 = 1 ∧ (ptE x (n0 + 1) = 1 → byS x n0 = 0) ∧ (ptE x (n0 + 1) ≠ 1 → 33 ≤ byS x n0 ∧ byS x n0 ≤ 126) then 1 else 0; rw [← hn]; split <;> omega) (by exact hE1) (by omega) (by omega) ls (lv_sub hl [0, 3, 2, 1, 5, 6] rfl)
              · refine x_iconst hx hb dX7_put_79 ?_
                refine lv_goto (tgt := 84) hx hb dX7_put_80 (by decide) ?_
                refine lv_istore (lv' := [(4, .int (zI 1)), (5, .int (zI 0)), (7, .int (zI (byS x k))), (6, .int (zI k)), (3, .int (zI mny)), (0, .ref (a 0)), (1, .long (zL x))]) hx hb dX7_put_84 hl (by decide) rfl (fun ls hl => ?_)
                refine lv_iload_n hx hb dX7_put_86 rfl (lv_at hl 4 rfl) ?_
                refine lv_iload hx hb dX7_put_87 (lv_at hl 1 rfl) ?_
                refine x_if_eq (tgt := 96) hx hb dX7_put_89 (by decide) (by decide) (fun _ => ?_) (fun q => absurd q (by decide))
                refine x_iconst hx hb dX7_put_96 ?_
                refine x_iadd hx hb dX7_put_97 ?_
                refine lv_istore_n (lv' := [(3, .int (zI (mny + 1))), (4, .int (zI 1)), (5, .int (zI 0)), (7, .int (zI (byS x k))), (6, .int (zI k)), (0, .ref (a 0)), (1, .long (zL x))]) hx hb dX7_put_98 rfl hl (by decide) rfl (fun ls hl => ?_)
                refine x_iinc (x := k) (lv' := [(6, .int (zI (k + 1))), (3, .int (zI (mny + 1))), (4, .int (zI 1)), (5, .int (zI 0)), (7, .int (zI (byS x k))), (0, .ref (a 0)), (1, .long (zL x))]) hx hb dX7_put_99 hl (k := 4) rfl (by decide) rfl (fun ls hl => ?_)
                refine lv_goto (tgt := 11) hx hb dX7_put_102 (by decide) ?_
                exact ih11 (k + 1) 0 1 (mny + 1) (n0 + 1) (by omega) (by omega) (by omega) (by show _ = ptM x n0 + (if ptE x (n0 + 1) = 1 then 0 else 1); split <;> omega) (by show _ = if ptR x n0 = 1 ∧ (ptE x (n0 + 1) = 1 → byS x n0 = 0) ∧ (ptE x (n0 + 1) ≠ 1 → 33 ≤ byS x n0 ∧ byS x n0 ≤ 126) then 1 else 0; rw [← hn]; split <;> omega) (by exact hE1) (by omega) (by omega) ls (lv_sub hl [0, 3, 2, 1, 5, 6] rfl)
          · refine x_iconst hx hb dX7_put_42 ?_
            refine lv_goto (tgt := 47) hx hb dX7_put_43 (by decide) ?_
            refine lv_istore (lv' := [(5, .int (zI 1)), (7, .int (zI (byS x k))), (6, .int (zI k)), (4, .int (zI r)), (3, .int (zI mny)), (0, .ref (a 0)), (1, .long (zL x))]) hx hb dX7_put_47 hl (by decide) rfl (fun ls hl => ?_)
            have hE1 : (1 : Int) = ptE x (n0 + 1) := by
              show _ = if ptE x n0 = 1 ∨ byS x n0 = 0 then 1 else 0
              rw [← hn]
              split <;> omega
            refine lv_iload hx hb dX7_put_49 (lv_at hl 3 rfl) ?_
            refine x_if_eq (tgt := 83) hx hb dX7_put_51 (by decide) (by omega) (fun c_51 => ?_) (fun c_51 => ?_)
            · refine x_iconst hx hb dX7_put_83 ?_
              refine lv_istore (lv' := [(4, .int (zI 0)), (5, .int (zI 1)), (7, .int (zI (byS x k))), (6, .int (zI k)), (3, .int (zI mny)), (0, .ref (a 0)), (1, .long (zL x))]) hx hb dX7_put_84 hl (by decide) rfl (fun ls hl => ?_)
              refine lv_iload_n hx hb dX7_put_86 rfl (lv_at hl 4 rfl) ?_
              refine lv_iload hx hb dX7_put_87 (lv_at hl 1 rfl) ?_
              refine x_if_eq (tgt := 96) hx hb dX7_put_89 (by decide) (by decide) (fun q => absurd q (by decide)) (fun _ => ?_)
              refine x_iconst hx hb dX7_put_92 ?_
              refine lv_goto (tgt := 97) hx hb dX7_put_93 (by decide) ?_
              refine x_iadd hx hb dX7_put_97 ?_
              refine lv_istore_n (lv' := [(3, .int (zI (mny + 0))), (4, .int (zI 0)), (5, .int (zI 1)), (7, .int (zI (byS x k))), (6, .int (zI k)), (0, .ref (a 0)), (1, .long (zL x))]) hx hb dX7_put_98 rfl hl (by decide) rfl (fun ls hl => ?_)
              refine x_iinc (x := k) (lv' := [(6, .int (zI (k + 1))), (3, .int (zI (mny + 0))), (4, .int (zI 0)), (5, .int (zI 1)), (7, .int (zI (byS x k))), (0, .ref (a 0)), (1, .long (zL x))]) hx hb dX7_put_99 hl (k := 4) rfl (by decide) rfl (fun ls hl => ?_)
              refine lv_goto (tgt := 11) hx hb dX7_put_102 (by decide) ?_
              exact ih11 (k + 1) 1 0 (mny + 0) (n0 + 1) (by omega) (by omega) (by omega) (by show _ = ptM x n0 + (if ptE x (n0 + 1) = 1 then 0 else 1); split <;> omega) (by show _ = if ptR x n0 = 1 ∧ (ptE x (n0 + 1) = 1 → byS x n0 = 0) ∧ (ptE x (n0 + 1) ≠ 1 → 33 ≤ byS x n0 ∧ byS x n0 ≤ 126) then 1 else 0; rw [← hn]; split <;> omega) (by exact hE1) (by omega) (by omega) ls (lv_sub hl [0, 3, 2, 1, 5, 6] rfl)
            · refine lv_iload hx hb dX7_put_54 (lv_at hl 0 rfl) ?_
              refine x_if_eq (tgt := 67) hx hb dX7_put_56 (by decide) (by decide) (fun q => absurd q (by decide)) (fun _ => ?_)
              refine lv_iload hx hb dX7_put_59 (lv_at hl 1 rfl) ?_
              refine x_if_ne (tgt := 83) hx hb dX7_put_61 (by decide) (by omega) (fun c_61 => ?_) (fun c_61 => ?_)
              · refine x_iconst hx hb dX7_put_83 ?_
                refine lv_istore (lv' := [(4, .int (zI 0)), (5, .int (zI 1)), (7, .int (zI (byS x k))), (6, .int (zI k)), (3, .int (zI mny)), (0, .ref (a 0)), (1, .long (zL x))]) hx hb dX7_put_84 hl (by decide) rfl (fun ls hl => ?_)
                refine lv_iload_n hx hb dX7_put_86 rfl (lv_at hl 4 rfl) ?_
                refine lv_iload hx hb dX7_put_87 (lv_at hl 1 rfl) ?_
                refine x_if_eq (tgt := 96) hx hb dX7_put_89 (by decide) (by decide) (fun q => absurd q (by decide)) (fun _ => ?_)
                refine x_iconst hx hb dX7_put_92 ?_
                refine lv_goto (tgt := 97) hx hb dX7_put_93 (by decide) ?_
                refine x_iadd hx hb dX7_put_97 ?_
                refine lv_istore_n (lv' := [(3, .int (zI (mny + 0))), (4, .int (zI 0)), (5, .int (zI 1)), (7, .int (zI (byS x k))), (6, .int (zI k)), (0, .ref (a 0)), (1, .long (zL x))]) hx hb dX7_put_98 rfl hl (by decide) rfl (fun ls hl => ?_)
                refine x_iinc (x := k) (lv' := [(6, .int (zI (k + 1))), (3, .int (zI (mny + 0))), (4, .int (zI 0)), (5, .int (zI 1)), (7, .int (zI (byS x k))), (0, .ref (a 0)), (1, .long (zL x))]) hx hb dX7_put_99 hl (k := 4) rfl (by decide) rfl (fun ls hl => ?_)
                refine lv_goto (tgt := 11) hx hb dX7_put_102 (by decide) ?_
                exact ih11 (k + 1) 1 0 (mny + 0) (n0 + 1) (by omega) (by omega) (by omega) (by show _ = ptM x n0 + (if ptE x (n0 + 1) = 1 then 0 else 1); split <;> omega) (by show _ = if ptR x n0 = 1 ∧ (ptE x (n0 + 1) = 1 → byS x n0 = 0) ∧ (ptE x (n0 + 1) ≠ 1 → 33 ≤ byS x n0 ∧ byS x n0 ≤ 126) then 1 else 0; rw [← hn]; split <;> omega) (by exact hE1) (by omega) (by omega) ls (lv_sub hl [0, 3, 2, 1, 5, 6] rfl)
              · refine lv_goto (tgt := 79) hx hb dX7_put_64 (by decide) ?_
                refine x_iconst hx hb dX7_put_79 ?_
                refine lv_goto (tgt := 84) hx hb dX7_put_80 (by decide) ?_
                refine lv_istore (lv' := [(4, .int (zI 1)), (5, .int (zI 1)), (7, .int (zI (byS x k))), (6, .int (zI k)), (3, .int (zI mny)), (0, .ref (a 0)), (1, .long (zL x))]) hx hb dX7_put_84 hl (by decide) rfl (fun ls hl => ?_)
                refine lv_iload_n hx hb dX7_put_86 rfl (lv_at hl 4 rfl) ?_
                refine lv_iload hx hb dX7_put_87 (lv_at hl 1 rfl) ?_
                refine x_if_eq (tgt := 96) hx hb dX7_put_89 (by decide) (by decide) (fun q => absurd q (by decide)) (fun _ => ?_)
                refine x_iconst hx hb dX7_put_92 ?_
                refine lv_goto (tgt := 97) hx hb dX7_put_93 (by decide) ?_
                refine x_iadd hx hb dX7_put_97 ?_
                refine lv_istore_n (lv' := [(3, .int (zI (mny + 0))), (4, .int (zI 1)), (5, .int (zI 1)), (7, .int (zI (byS x k))), (6, .int (zI k)), (0, .ref (a 0)), (1, .long (zL x))]) hx hb dX7_put_98 rfl hl (by decide) rfl (fun ls hl => ?_)
                refine x_iinc (x := k) (lv' := [(6, .int (zI (k + 1))), (3, .int (zI (mny + 0))), (4, .int (zI 1)), (5, .int (zI 1)), (7, .int (zI (byS x k))), (0, .ref (a 0)), (1, .long (zL x))]) hx hb dX7_put_99 hl (k := 4) rfl (by decide) rfl (fun ls hl => ?_)
                refine lv_goto (tgt := 11) hx hb dX7_put_102 (by decide) ?_
                exact ih11 (k + 1) 1 1 (mny + 0) (n0 + 1) (by omega) (by omega) (by omega) (by show _ = ptM x n0 + (if ptE x (n0 + 1) = 1 then 0 else 1); split <;> omega) (by show _ = if ptR x n0 = 1 ∧ (ptE x (n0 + 1) = 1 → byS x n0 = 0) ∧ (ptE x (n0 + 1) ≠ 1 → 33 ≤ byS x n0 ∧ byS x n0 ≤ 126) then 1 else 0; rw [← hn]; split <;> omega) (by exact hE1) (by omega) (by omega) ls (lv_sub hl [0, 3, 2, 1, 5, 6] rfl)
  exact lp11 ((8 - (0 : Int)).toNat + 1) 0 0 1 0 0 (Nat.lt_succ_self _) (by omega) (by omega) (by rfl) (by rfl) (by rfl) (by omega) (by omega) ls (lv_sub hl [0, 1, 2, 3, 4, 5] rfl)
set_option maxHeartbeats 4000000 in
set_option maxRecDepth 100000 in
theorem c_X7_put_ok (l : Launch) (D : va_G) (cs : Nat → ClassId) (a : Int → Nat) (σ : Int → Int) (pa : Int → Int) (sl : Int → Int) (sv : Int → Int) (pd : Int → Int) (kn : Int) (ln : Int) (x : Int) (hx : -9223372036854775808 ≤ x ∧ x < 9223372036854775808) (hn0 : ptR x 8 = 1 ∧ 0 < ptM x 8) (hmm : ln + ptM x 8 ≤ 80) (hl0 : 0 ≤ ln ∧ ln ≤ 80) (hI : mI a) : kM D cs l yX7_put wsX7_put ({ frames := 1, cells := 0, slots := 0, locals := 22 } : Room) [.ref (a 0), .long (zL x)] (fun H => mAt D cs a σ pa sl sv pd kn ln H) (some (.int (zI (ln + ptM x 8)))) (fun H => mAt D cs a σ pa sl sv (ptW pd ln x (ptM x 8) (ptM x 8)) kn (ln + ptM x 8) H) (mC a) := by
  refine Met.ofW (cc := cX7_put) (maxL := 8) (ret := (some .int)) (by decide) rfl ?_
  intro p e s m args below meth c s₁ B hml hv
  obtain ⟨rfl, hK, hM⟩ := hv
  have hx := B.exec
  have hb := B.bytes
  have hr := B.returns
  have hts := atoms_spec (ws := wsX7_put) B.pre
  have hown : s.vm.findClass RX7 = some m.cls := findClass_of_methodNamed B.named
  have hlocks := B.notSynchronized
  have S : CallFix p m c cX7_put 8 s (([.ref (a 0), .long (zL x)] : List Value)).toArray wsX7_put RX7 := ⟨hx, hb, hml, hown, hts⟩
  have hin7 : ∀ w ∈ wsX70, w ∈ wsX7_put := by decide +kernel
  have hS : va_S (mC a) s.heap s.heap [] := va_S.rf
  have hl := lv_entry ([.ref (a 0), .long (zL x)]) (n := 8) (Nat.le_of_ble_eq_true rfl)
  rw [lg_entry_eq]
  generalize (lg_sl ([.ref (a 0), .long (zL x)]) ++ List.replicate (8 - (lg_sl ([.ref (a 0), .long (zL x)])).length) Slot.unset).toArray = ls at hl ⊢
  have hl : lv_has ls 8 [(0, .ref (a 0)), (1, .long (zL x))] := hl
  refine x_iconst hx hb dX7_put_0 ?_
  refine lv_istore_n (lv' := [(3, .int (zI 0)), (0, .ref (a 0)), (1, .long (zL x))]) hx hb dX7_put_1 rfl hl (by decide) rfl (fun ls hl => ?_)
  refine x_iconst hx hb dX7_put_2 ?_
  refine lv_istore (lv' := [(4, .int (zI 1)), (3, .int (zI 0)), (0, .ref (a 0)), (1, .long (zL x))]) hx hb dX7_put_3 hl (by decide) rfl (fun ls hl => ?_)
  refine x_iconst hx hb dX7_put_5 ?_
  refine lv_istore (lv' := [(5, .int (zI 0)), (4, .int (zI 1)), (3, .int (zI 0)), (0, .ref (a 0)), (1, .long (zL x))]) hx hb dX7_put_6 hl (by decide) rfl (fun ls hl => ?_)
  refine x_iconst hx hb dX7_put_8 ?_
  refine lv_istore (lv' := [(6, .int (zI 0)), (5, .int (zI 0)), (4, .int (zI 1)), (3, .int (zI 0)), (0, .ref (a 0)), (1, .long (zL x))]) hx hb dX7_put_9 hl (by decide) rfl (fun ls hl => ?_)
  have lp11 : ∀ (n : Nat) (k : Int) (en : Int) (r : Int) (mny : Int) (n0 : Nat), (8 - k).toNat < n → (0 ≤ k ∧ k ≤ 8) → (k = (n0 : Int)) → (mny = ptM x n0) → (r = ptR x n0) → (en = ptE x n0) → ((r = 0 ∨ r = 1) ∧ (en = 0 ∨ en = 1)) → (0 ≤ mny ∧ mny ≤ k) → ∀ (H : Heap) (locs : List Loc), mAt D cs a σ pa sl sv pd kn ln H → va_S (mC a) s.heap H locs → ∀ (ls : Array Slot), lv_has ls 8 [(6, .int (zI k)), (5, .int (zI en)), (4, .int (zI r)), (3, .int (zI mny)), (0, .ref (a 0)), (1, .long (zL x))] → W p l e (headSpec wsX7_put ({ frames := 1, cells := 0, slots := 0, locals := 22 } : Room)).room s m ([.ref (a 0), .long (zL x)] : List Value).toArray below meth c H locs 0 0 (MQ below (kQ (some (.int (zI (ln + ptM x 8)))) (fun H => mAt D cs a σ pa sl sv (ptW pd ln x (ptM x 8) (ptM x 8)) kn (ln + ptM x 8) H) (mC a)) ([.ref (a 0), .long (zL x)] : List Value).toArray s 0 0 (mC a)) (F0 m 11 ls []) := by
    intro n
    induction n with
    | zero => intro k en r mny n0 hms; exact absurd hms (Nat.not_lt_zero _)
    | succ n ih =>
      intro k en r mny n0 hms hk0 hn iM iR iE h01 hM0 H locs hM hS ls hl
      have ih11 := ih
      clear ih
      refine lv_iload hx hb dX7_put_11 (lv_at hl 0 rfl) ?_
      refine x_bipush hx hb dX7_put_13 (by decide +kernel) ?_
      refine x_icmp_ge (tgt := 105) hx hb dX7_put_15 (by decide) (by omega) (by omega) (fun c_15 => ?_) (fun c_15 => ?_)
      · have h8 : n0 = 8 := by omega
        rw [h8] at iM iR
        refine lv_iload hx hb dX7_put_105 (lv_at hl 2 rfl) ?_
        refine x_if_eq (tgt := 114) hx hb dX7_put_107 (by decide) (by omega) (fun c_107 => ?_) (fun c_107 => ?_)
        · exfalso; omega
        · refine lv_iload_n hx hb dX7_put_110 rfl (lv_at hl 3 rfl) ?_
          refine x_if_ne (tgt := 117) hx hb dX7_put_111 (by decide) (by omega) (fun c_111 => ?_) (fun c_111 => ?_)
          · refine lv_aload_n hx hb dX7_put_117 rfl (lv_at hl 4 rfl) ?_
            refine m_g_length S hin7 hK hM (hts (.fieldLink RX7 135 "EnergyDiscsModel" "length" "I") (by decide +kernel)) dX7_put_118 ?_
            refine lv_iload_n hx hb dX7_put_121 rfl (lv_at hl 3 rfl) ?_
            refine x_iadd hx hb dX7_put_122 ?_
            refine x_bipush hx hb dX7_put_123 (by decide +kernel) ?_
            refine x_icmp_le (tgt := 131) hx hb dX7_put_125 (by decide) (by omega) (by omega) (fun c_125 => ?_) (fun c_125 => ?_)
            · refine lv_iload_n hx hb dX7_put_131 rfl (lv_at hl 3 rfl) ?_
              refine x_iconst hx hb dX7_put_132 ?_
              refine x_isub hx hb dX7_put_133 ?_
              refine lv_istore (lv' := [(6, .int (zI (mny - 1))), (5, .int (zI en)), (4, .int (zI r)), (3, .int (zI mny)), (0, .ref (a 0)), (1, .long (zL x))]) hx hb dX7_put_134 hl (by decide) rfl (fun ls hl => ?_)
              have lp136 : ∀ (n : Nat) (k2 : Int) (P : Int → Int) (L : Int), (k2 + 1).toNat < n → (-1 ≤ k2 ∧ k2 < mny) → (P = ptW pd ln x mny (mny - 1 - k2)) → (L = ln + (mny - 1 - k2)) → ∀ (H : Heap) (locs : List Loc), mAt D cs a σ pa sl sv P kn L H → va_S (mC a) s.heap H locs → ∀ (ls : Array Slot), lv_has ls 8 [(6, .int (zI k2)), (5, .int (zI en)), (4, .int (zI r)), (3, .int (zI mny)), (0, .ref (a 0)), (1, .long (zL x))] → W p l e (headSpec wsX7_put ({ frames := 1, cells := 0, slots := 0, locals := 22 } : Room)).room s m ([.ref (a 0), .long (zL x)] : List Value).toArray below meth c H locs 0 0 (MQ below (kQ (some (.int (zI (ln + ptM x 8)))) (fun H => mAt D cs a σ pa sl sv (ptW pd ln x (ptM x 8) (ptM x 8)) kn (ln + ptM x 8) H) (mC a)) ([.ref (a 0), .long (zL x)] : List Value).toArray s 0 0 (mC a)) (F0 m 136 ls []) := by
                intro n
                induction n with
                | zero => intro k2 P L hms; exact absurd hms (Nat.not_lt_zero _)
                | succ n ih =>
                  intro k2 P L hms j0 jP jL H locs hM hS ls hl
                  have ih136 := ih
                  clear ih
                  refine lv_iload hx hb dX7_put_136 (lv_at hl 0 rfl) ?_
                  refine x_if_lt (tgt := 163) hx hb dX7_put_138 (by decide) (by omega) (fun c_138 => ?_) (fun c_138 => ?_)
                  · refine lv_aload_n hx hb dX7_put_163 rfl (lv_at hl 4 rfl) ?_
                    refine m_g_length S hin7 hK hM (hts (.fieldLink RX7 135 "EnergyDiscsModel" "length" "I") (by decide +kernel)) dX7_put_164 ?_
                    exact x_iretM hx hb hr hlocks (by omega) (mAt_cong hM rfl rfl rfl rfl (by rw [jP, show mny - 1 - k2 = mny by omega, iM]) rfl (by omega)) hS dX7_put_167
                  · refine lv_aload_n hx hb dX7_put_141 rfl (lv_at hl 4 rfl) ?_
                    refine lv_lload_n hx hb dX7_put_142 rfl (lv_at hl 5 rfl) ?_
                    refine x_bipush hx hb dX7_put_143 (by decide +kernel) ?_
                    refine lv_iload hx hb dX7_put_145 (lv_at hl 0 rfl) ?_
                    refine x_imul hx hb dX7_put_147 ?_
                    refine x_lshr (k := k2) hx hb (by omega) (by omega) dX7_put_148 ?_
                    refine x_ldc2 (v := 255) hx hb hown (hts (.constantLong RX7 164 (zL 255)) (by decide +kernel)) dX7_put_149 ?_
                    refine x_land hx hb dX7_put_152 ?_
                    refine x_l2i hx hb dX7_put_153 ?_
                    refine x_callVMn (As := [.int (zI (byS x k2))]) (rest := []) S hK (c_X7_types l D cs a σ pa sl sv P kn L (byS x k2) (by omega) (by omega)) (cwV 1 hts gX7_put_X7_types rfl rfl rfl (by decide +kernel) ⟨(Nat.le_of_ble_eq_true rfl), (Nat.le_of_ble_eq_true rfl)⟩) (x_rc hK (mAt_0 hM) rfl) hM rfl hl.1 (Nat.le_of_ble_eq_true rfl) dX7_put_154 ⟨Nat.zero_le _, Nat.zero_le _⟩ hS (fun q hq => hq) (fun H locs hB hF hS => ?_)
                    have hM : mAt D cs a σ pa sl sv (up P L (byS x k2)) kn (L + 1) H := hB
                    refine x_iinc (x := k2) (lv' := [(6, .int (zI (k2 + (-1)))), (5, .int (zI en)), (4, .int (zI r)), (3, .int (zI mny)), (0, .ref (a 0)), (1, .long (zL x))]) hx hb dX7_put_157 hl (k := 0) rfl (by decide) rfl (fun ls hl => ?_)
                    refine lv_goto (tgt := 136) hx hb dX7_put_160 (by decide) ?_
                    exact ih136 (k2 + (-1)) (up P L (byS x k2)) (L + 1) (by omega) (by omega) (by rw [jP, ptW_step jL (by omega) (by rw [show mny - 1 - (mny - 1 - k2) = k2 by omega])]; congr 1; omega) (by omega) H locs hM hS ls (lv_sub hl [0, 1, 2, 3, 4, 5] rfl)
              exact lp136 (((mny - 1) + 1).toNat + 1) (mny - 1) pd ln (Nat.lt_succ_self _) (by omega) (by rw [show mny - 1 - (mny - 1) = 0 by omega]; exact (ptW_0 _ _ _ _).symm) (by omega) H locs hM hS ls (lv_sub hl [0, 1, 2, 3, 4, 5] rfl)
            · exfalso; omega
          · exfalso; omega
      · refine lv_lload_n hx hb dX7_put_18 rfl (lv_at hl 5 rfl) ?_
        refine x_bipush hx hb dX7_put_19 (by decide +kernel) ?_
        refine lv_iload hx hb dX7_put_21 (lv_at hl 0 rfl) ?_
        refine x_imul hx hb dX7_put_23 ?_
        refine x_lshr (k := k) hx hb (by omega) (by omega) dX7_put_24 ?_
        refine x_ldc2 (v := 255) hx hb hown (hts (.constantLong RX7 164 (zL 255)) (by decide +kernel)) dX7_put_25 ?_
        refine x_land hx hb dX7_put_28 ?_
        refine x_l2i hx hb dX7_put_29 ?_
        refine lv_istore (lv' := [(7, .int (zI (byS x k))), (6, .int (zI k)), (5, .int (zI en)), (4, .int (zI r)), (3, .int (zI mny)), (0, .ref (a 0)), (1, .long (zL x))]) hx hb dX7_put_30 hl (by decide) rfl (fun ls hl => ?_)
        have hby := byS_rng x k
        refine lv_iload hx hb dX7_put_32 (lv_at hl 2 rfl) ?_
        refine x_if_ne (tgt := 42) hx hb dX7_put_34 (by decide) (by omega) (fun c_34 => ?_) (fun c_34 => ?_)
        · refine x_iconst hx hb dX7_put_42 ?_
          refine lv_goto (tgt := 47) hx hb dX7_put_43 (by decide) ?_
          refine lv_istore (lv' := [(5, .int (zI 1)), (7, .int (zI (byS x k))), (6, .int (zI k)), (4, .int (zI r)), (3, .int (zI mny)), (0, .ref (a 0)), (1, .long (zL x))]) hx hb dX7_put_47 hl (by decide) rfl (fun ls hl => ?_)
          have hE1 : (1 : Int) = ptE x (n0 + 1) := by
            show _ = if ptE x n0 = 1 ∨ byS x n0 = 0 then 1 else 0
            rw [← hn]
            split <;> omega
          refine lv_iload hx hb dX7_put_49 (lv_at hl 3 rfl) ?_
          refine x_if_eq (tgt := 83) hx hb dX7_put_51 (by decide) (by omega) (fun c_51 => ?_) (fun c_51 => ?_)
          · refine x_iconst hx hb dX7_put_83 ?_
            refine lv_istore (lv' := [(4, .int (zI 0)), (5, .int (zI 1)), (7, .int (zI (byS x k))), (6, .int (zI k)), (3, .int (zI mny)), (0, .ref (a 0)), (1, .long (zL x))]) hx hb dX7_put_84 hl (by decide) rfl (fun ls hl => ?_)
            refine lv_iload_n hx hb dX7_put_86 rfl (lv_at hl 4 rfl) ?_
            refine lv_iload hx hb dX7_put_87 (lv_at hl 1 rfl) ?_
            refine x_if_eq (tgt := 96) hx hb dX7_put_89 (by decide) (by decide) (fun q => absurd q (by decide)) (fun _ => ?_)
            refine x_iconst hx hb dX7_put_92 ?_
            refine lv_goto (tgt := 97) hx hb dX7_put_93 (by decide) ?_
            refine x_iadd hx hb dX7_put_97 ?_
            refine lv_istore_n (lv' := [(3, .int (zI (mny + 0))), (4, .int (zI 0)), (5, .int (zI 1)), (7, .int (zI (byS x k))), (6, .int (zI k)), (0, .ref (a 0)), (1, .long (zL x))]) hx hb dX7_put_98 rfl hl (by decide) rfl (fun ls hl => ?_)
            refine x_iinc (x := k) (lv' := [(6, .int (zI (k + 1))), (3, .int (zI (mny + 0))), (4, .int (zI 0)), (5, .int (zI 1)), (7, .int (zI (byS x k))), (0, .ref (a 0)), (1, .long (zL x))]) hx hb dX7_put_99 hl (k := 4) rfl (by decide) rfl (fun ls hl => ?_)
            refine lv_goto (tgt := 11) hx hb dX7_put_102 (by decide) ?_
            exact ih11 (k + 1) 1 0 (mny + 0) (n0 + 1) (by omega) (by omega) (by omega) (by show _ = ptM x n0 + (if ptE x (n0 + 1) = 1 then 0 else 1); split <;> omega) (by show _ = if ptR x n0 = 1 ∧ (ptE x (n0 + 1) = 1 → byS x n0 = 0) ∧ (ptE x (n0 + 1) ≠ 1 → 33 ≤ byS x n0 ∧ byS x n0 ≤ 126) then 1 else 0; rw [← hn]; split <;> omega) (by exact hE1) (by omega) (by omega) H locs hM hS ls (lv_sub hl [0, 3, 2, 1, 5, 6] rfl)
          · refine lv_iload hx hb dX7_put_54 (lv_at hl 0 rfl) ?_
            refine x_if_eq (tgt := 67) hx hb dX7_put_56 (by decide) (by decide) (fun q => absurd q (by decide)) (fun _ => ?_)
            refine lv_iload hx hb dX7_put_59 (lv_at hl 1 rfl) ?_
            refine x_if_ne (tgt := 83) hx hb dX7_put_61 (by decide) (by omega) (fun c_61 => ?_) (fun c_61 => ?_)
            · refine x_iconst hx hb dX7_put_83 ?_
              refine lv_istore (lv' := [(4, .int (zI 0)), (5, .int (zI 1)), (7, .int (zI (byS x k))), (6, .int (zI k)), (3, .int (zI mny)), (0, .ref (a 0)), (1, .long (zL x))]) hx hb dX7_put_84 hl (by decide) rfl (fun ls hl => ?_)
              refine lv_iload_n hx hb dX7_put_86 rfl (lv_at hl 4 rfl) ?_
              refine lv_iload hx hb dX7_put_87 (lv_at hl 1 rfl) ?_
              refine x_if_eq (tgt := 96) hx hb dX7_put_89 (by decide) (by decide) (fun q => absurd q (by decide)) (fun _ => ?_)
              refine x_iconst hx hb dX7_put_92 ?_
              refine lv_goto (tgt := 97) hx hb dX7_put_93 (by decide) ?_
              refine x_iadd hx hb dX7_put_97 ?_
              refine lv_istore_n (lv' := [(3, .int (zI (mny + 0))), (4, .int (zI 0)), (5, .int (zI 1)), (7, .int (zI (byS x k))), (6, .int (zI k)), (0, .ref (a 0)), (1, .long (zL x))]) hx hb dX7_put_98 rfl hl (by decide) rfl (fun ls hl => ?_)
              refine x_iinc (x := k) (lv' := [(6, .int (zI (k + 1))), (3, .int (zI (mny + 0))), (4, .int (zI 0)), (5, .int (zI 1)), (7, .int (zI (byS x k))), (0, .ref (a 0)), (1, .long (zL x))]) hx hb dX7_put_99 hl (k := 4) rfl (by decide) rfl (fun ls hl => ?_)
              refine lv_goto (tgt := 11) hx hb dX7_put_102 (by decide) ?_
              exact ih11 (k + 1) 1 0 (mny + 0) (n0 + 1) (by omega) (by omega) (by omega) (by show _ = ptM x n0 + (if ptE x (n0 + 1) = 1 then 0 else 1); split <;> omega) (by show _ = if ptR x n0 = 1 ∧ (ptE x (n0 + 1) = 1 → byS x n0 = 0) ∧ (ptE x (n0 + 1) ≠ 1 → 33 ≤ byS x n0 ∧ byS x n0 ≤ 126) then 1 else 0; rw [← hn]; split <;> omega) (by exact hE1) (by omega) (by omega) H locs hM hS ls (lv_sub hl [0, 3, 2, 1, 5, 6] rfl)
            · refine lv_goto (tgt := 79) hx hb dX7_put_64 (by decide) ?_
              refine x_iconst hx hb dX7_put_79 ?_
              refine lv_goto (tgt := 84) hx hb dX7_put_80 (by decide) ?_
              refine lv_istore (lv' := [(4, .int (zI 1)), (5, .int (zI 1)), (7, .int (zI (byS x k))), (6, .int (zI k)), (3, .int (zI mny)), (0, .ref (a 0)), (1, .long (zL x))]) hx hb dX7_put_84 hl (by decide) rfl (fun ls hl => ?_)
              refine lv_iload_n hx hb dX7_put_86 rfl (lv_at hl 4 rfl) ?_
              refine lv_iload hx hb dX7_put_87 (lv_at hl 1 rfl) ?_
              refine x_if_eq (tgt := 96) hx hb dX7_put_89 (by decide) (by decide) (fun q => absurd q (by decide)) (fun _ => ?_)
              refine x_iconst hx hb dX7_put_92 ?_
              refine lv_goto (tgt := 97) hx hb dX7_put_93 (by decide) ?_
              refine x_iadd hx hb dX7_put_97 ?_
              refine lv_istore_n (lv' := [(3, .int (zI (mny + 0))), (4, .int (zI 1)), (5, .int (zI 1)), (7, .int (zI (byS x k))), (6, .int (zI k)), (0, .ref (a 0)), (1, .long (zL x))]) hx hb dX7_put_98 rfl hl (by decide) rfl (fun ls hl => ?_)
              refine x_iinc (x := k) (lv' := [(6, .int (zI (k + 1))), (3, .int (zI (mny + 0))), (4, .int (zI 1)), (5, .int (zI 1)), (7, .int (zI (byS x k))), (0, .ref (a 0)), (1, .long (zL x))]) hx hb dX7_put_99 hl (k := 4) rfl (by decide) rfl (fun ls hl => ?_)
              refine lv_goto (tgt := 11) hx hb dX7_put_102 (by decide) ?_
              exact ih11 (k + 1) 1 1 (mny + 0) (n0 + 1) (by omega) (by omega) (by omega) (by show _ = ptM x n0 + (if ptE x (n0 + 1) = 1 then 0 else 1); split <;> omega) (by show _ = if ptR x n0 = 1 ∧ (ptE x (n0 + 1) = 1 → byS x n0 = 0) ∧ (ptE x (n0 + 1) ≠ 1 → 33 ≤ byS x n0 ∧ byS x n0 ≤ 126) then 1 else 0; rw [← hn]; split <;> omega) (by exact hE1) (by omega) (by omega) H locs hM hS ls (lv_sub hl [0, 3, 2, 1, 5, 6] rfl)
        · refine lv_iload hx hb dX7_put_37 (lv_at hl 0 rfl) ?_
          refine x_if_ne (tgt := 46) hx hb dX7_put_39 (by decide) (by omega) (fun c_39 => ?_) (fun c_39 => ?_)
          · refine x_iconst hx hb dX7_put_46 ?_
            refine lv_istore (lv' := [(5, .int (zI 0)), (7, .int (zI (byS x k))), (6, .int (zI k)), (4, .int (zI r)), (3, .int (zI mny)), (0, .ref (a 0)), (1, .long (zL x))]) hx hb dX7_put_47 hl (by decide) rfl (fun ls hl => ?_)
            have hE1 : (0 : Int) = ptE x (n0 + 1) := by
              show _ = if ptE x n0 = 1 ∨ byS x n0 = 0 then 1 else 0
              rw [← hn]
              split <;> omega
            refine lv_iload hx hb dX7_put_49 (lv_at hl 3 rfl) ?_
            refine x_if_eq (tgt := 83) hx hb dX7_put_51 (by decide) (by omega) (fun c_51 => ?_) (fun c_51 => ?_)
            · refine x_iconst hx hb dX7_put_83 ?_
              refine lv_istore (lv' := [(4, .int (zI 0)), (5, .int (zI 0)), (7, .int (zI (byS x k))), (6, .int (zI k)), (3, .int (zI mny)), (0, .ref (a 0)), (1, .long (zL x))]) hx hb dX7_put_84 hl (by decide) rfl (fun ls hl => ?_)
              refine lv_iload_n hx hb dX7_put_86 rfl (lv_at hl 4 rfl) ?_
              refine lv_iload hx hb dX7_put_87 (lv_at hl 1 rfl) ?_
              refine x_if_eq (tgt := 96) hx hb dX7_put_89 (by decide) (by decide) (fun _ => ?_) (fun q => absurd q (by decide))
              refine x_iconst hx hb dX7_put_96 ?_
              refine x_iadd hx hb dX7_put_97 ?_
              refine lv_istore_n (lv' := [(3, .int (zI (mny + 1))), (4, .int (zI 0)), (5, .int (zI 0)), (7, .int (zI (byS x k))), (6, .int (zI k)), (0, .ref (a 0)), (1, .long (zL x))]) hx hb dX7_put_98 rfl hl (by decide) rfl (fun ls hl => ?_)
              refine x_iinc (x := k) (lv' := [(6, .int (zI (k + 1))), (3, .int (zI (mny + 1))), (4, .int (zI 0)), (5, .int (zI 0)), (7, .int (zI (byS x k))), (0, .ref (a 0)), (1, .long (zL x))]) hx hb dX7_put_99 hl (k := 4) rfl (by decide) rfl (fun ls hl => ?_)
              refine lv_goto (tgt := 11) hx hb dX7_put_102 (by decide) ?_
              exact ih11 (k + 1) 0 0 (mny + 1) (n0 + 1) (by omega) (by omega) (by omega) (by show _ = ptM x n0 + (if ptE x (n0 + 1) = 1 then 0 else 1); split <;> omega) (by show _ = if ptR x n0 = 1 ∧ (ptE x (n0 + 1) = 1 → byS x n0 = 0) ∧ (ptE x (n0 + 1) ≠ 1 → 33 ≤ byS x n0 ∧ byS x n0 ≤ 126) then 1 else 0; rw [← hn]; split <;> omega) (by exact hE1) (by omega) (by omega) H locs hM hS ls (lv_sub hl [0, 3, 2, 1, 5, 6] rfl)
            · refine lv_iload hx hb dX7_put_54 (lv_at hl 0 rfl) ?_
              refine x_if_eq (tgt := 67) hx hb dX7_put_56 (by decide) (by decide) (fun _ => ?_) (fun q => absurd q (by decide))
              refine lv_iload hx hb dX7_put_67 (lv_at hl 1 rfl) ?_
              refine x_bipush hx hb dX7_put_69 (by decide +kernel) ?_
              refine x_bipush hx hb dX7_put_71 (by decide +kernel) ?_
              refine x_callSR (As := [.int (zI (byS x k)), .int (zI 33), .int (zI 126)]) (rest := []) S hK (c_X7_in l D cs (byS x k) 33 126 (by omega) (by omega) (by omega)) (va_cwS 3 hts gX7_put_X7_in rfl rfl rfl (by decide +kernel) ⟨(Nat.le_of_ble_eq_true rfl), (Nat.le_of_ble_eq_true rfl)⟩) trivial rfl hl.1 (Nat.le_of_ble_eq_true rfl) dX7_put_73 ⟨Nat.zero_le _, Nat.zero_le _⟩ ?_
              refine x_ifb_eq (tgt := 83) hx hb dX7_put_76 (by decide)  (fun c_76 => ?_) (fun c_76 => ?_)
              · refine x_iconst hx hb dX7_put_83 ?_
                refine lv_istore (lv' := [(4, .int (zI 0)), (5, .int (zI 0)), (7, .int (zI (byS x k))), (6, .int (zI k)), (3, .int (zI mny)), (0, .ref (a 0)), (1, .long (zL x))]) hx hb dX7_put_84 hl (by decide) rfl (fun ls hl => ?_)
                refine lv_iload_n hx hb dX7_put_86 rfl (lv_at hl 4 rfl) ?_
                refine lv_iload hx hb dX7_put_87 (lv_at hl 1 rfl) ?_
                refine x_if_eq (tgt := 96) hx hb dX7_put_89 (by decide) (by decide) (fun _ => ?_) (fun q => absurd q (by decide))
                refine x_iconst hx hb dX7_put_96 ?_
                refine x_iadd hx hb dX7_put_97 ?_
                refine lv_istore_n (lv' := [(3, .int (zI (mny + 1))), (4, .int (zI 0)), (5, .int (zI 0)), (7, .int (zI (byS x k))), (6, .int (zI k)), (0, .ref (a 0)), (1, .long (zL x))]) hx hb dX7_put_98 rfl hl (by decide) rfl (fun ls hl => ?_)
                refine x_iinc (x := k) (lv' := [(6, .int (zI (k + 1))), (3, .int (zI (mny + 1))), (4, .int (zI 0)), (5, .int (zI 0)), (7, .int (zI (byS x k))), (0, .ref (a 0)), (1, .long (zL x))]) hx hb dX7_put_99 hl (k := 4) rfl (by decide) rfl (fun ls hl => ?_)
                refine lv_goto (tgt := 11) hx hb dX7_put_102 (by decide) ?_
                exact ih11 (k + 1) 0 0 (mny + 1) (n0 + 1) (by omega) (by omega) (by omega) (by show _ = ptM x n0 + (if ptE x (n0 + 1) = 1 then 0 else 1); split <;> omega) (by show _ = if ptR x n0 = 1 ∧ (ptE x (n0 + 1) = 1 → byS x n0 = 0) ∧ (ptE x (n0 + 1) ≠ 1 → 33 ≤ byS x n0 ∧ byS x n0 ≤ 126) then 1 else 0; rw [← hn]; split <;> omega) (by exact hE1) (by omega) (by omega) H locs hM hS ls (lv_sub hl [0, 3, 2, 1, 5, 6] rfl)
              · refine x_iconst hx hb dX7_put_79 ?_
                refine lv_goto (tgt := 84) hx hb dX7_put_80 (by decide) ?_
                refine lv_istore (lv' := [(4, .int (zI 1)), (5, .int (zI 0)), (7, .int (zI (byS x k))), (6, .int (zI k)), (3, .int (zI mny)), (0, .ref (a 0)), (1, .long (zL x))]) hx hb dX7_put_84 hl (by decide) rfl (fun ls hl => ?_)
                refine lv_iload_n hx hb dX7_put_86 rfl (lv_at hl 4 rfl) ?_
                refine lv_iload hx hb dX7_put_87 (lv_at hl 1 rfl) ?_
                refine x_if_eq (tgt := 96) hx hb dX7_put_89 (by decide) (by decide) (fun _ => ?_) (fun q => absurd q (by decide))
                refine x_iconst hx hb dX7_put_96 ?_
                refine x_iadd hx hb dX7_put_97 ?_
                refine lv_istore_n (lv' := [(3, .int (zI (mny + 1))), (4, .int (zI 1)), (5, .int (zI 0)), (7, .int (zI (byS x k))), (6, .int (zI k)), (0, .ref (a 0)), (1, .long (zL x))]) hx hb dX7_put_98 rfl hl (by decide) rfl (fun ls hl => ?_)
                refine x_iinc (x := k) (lv' := [(6, .int (zI (k + 1))), (3, .int (zI (mny + 1))), (4, .int (zI 1)), (5, .int (zI 0)), (7, .int (zI (byS x k))), (0, .ref (a 0)), (1, .long (zL x))]) hx hb dX7_put_99 hl (k := 4) rfl (by decide) rfl (fun ls hl => ?_)
                refine lv_goto (tgt := 11) hx hb dX7_put_102 (by decide) ?_
                exact ih11 (k + 1) 0 1 (mny + 1) (n0 + 1) (by omega) (by omega) (by omega) (by show _ = ptM x n0 + (if ptE x (n0 + 1) = 1 then 0 else 1); split <;> omega) (by show _ = if ptR x n0 = 1 ∧ (ptE x (n0 + 1) = 1 → byS x n0 = 0) ∧ (ptE x (n0 + 1) ≠ 1 → 33 ≤ byS x n0 ∧ byS x n0 ≤ 126) then 1 else 0; rw [← hn]; split <;> omega) (by exact hE1) (by omega) (by omega) H locs hM hS ls (lv_sub hl [0, 3, 2, 1, 5, 6] rfl)
          · refine x_iconst hx hb dX7_put_42 ?_
            refine lv_goto (tgt := 47) hx hb dX7_put_43 (by decide) ?_
            refine lv_istore (lv' := [(5, .int (zI 1)), (7, .int (zI (byS x k))), (6, .int (zI k)), (4, .int (zI r)), (3, .int (zI mny)), (0, .ref (a 0)), (1, .long (zL x))]) hx hb dX7_put_47 hl (by decide) rfl (fun ls hl => ?_)
            have hE1 : (1 : Int) = ptE x (n0 + 1) := by
              show _ = if ptE x n0 = 1 ∨ byS x n0 = 0 then 1 else 0
              rw [← hn]
              split <;> omega
            refine lv_iload hx hb dX7_put_49 (lv_at hl 3 rfl) ?_
            refine x_if_eq (tgt := 83) hx hb dX7_put_51 (by decide) (by omega) (fun c_51 => ?_) (fun c_51 => ?_)
            · refine x_iconst hx hb dX7_put_83 ?_
              refine lv_istore (lv' := [(4, .int (zI 0)), (5, .int (zI 1)), (7, .int (zI (byS x k))), (6, .int (zI k)), (3, .int (zI mny)), (0, .ref (a 0)), (1, .long (zL x))]) hx hb dX7_put_84 hl (by decide) rfl (fun ls hl => ?_)
              refine lv_iload_n hx hb dX7_put_86 rfl (lv_at hl 4 rfl) ?_
              refine lv_iload hx hb dX7_put_87 (lv_at hl 1 rfl) ?_
              refine x_if_eq (tgt := 96) hx hb dX7_put_89 (by decide) (by decide) (fun q => absurd q (by decide)) (fun _ => ?_)
              refine x_iconst hx hb dX7_put_92 ?_
              refine lv_goto (tgt := 97) hx hb dX7_put_93 (by decide) ?_
              refine x_iadd hx hb dX7_put_97 ?_
              refine lv_istore_n (lv' := [(3, .int (zI (mny + 0))), (4, .int (zI 0)), (5, .int (zI 1)), (7, .int (zI (byS x k))), (6, .int (zI k)), (0, .ref (a 0)), (1, .long (zL x))]) hx hb dX7_put_98 rfl hl (by decide) rfl (fun ls hl => ?_)
              refine x_iinc (x := k) (lv' := [(6, .int (zI (k + 1))), (3, .int (zI (mny + 0))), (4, .int (zI 0)), (5, .int (zI 1)), (7, .int (zI (byS x k))), (0, .ref (a 0)), (1, .long (zL x))]) hx hb dX7_put_99 hl (k := 4) rfl (by decide) rfl (fun ls hl => ?_)
              refine lv_goto (tgt := 11) hx hb dX7_put_102 (by decide) ?_
              exact ih11 (k + 1) 1 0 (mny + 0) (n0 + 1) (by omega) (by omega) (by omega) (by show _ = ptM x n0 + (if ptE x (n0 + 1) = 1 then 0 else 1); split <;> omega) (by show _ = if ptR x n0 = 1 ∧ (ptE x (n0 + 1) = 1 → byS x n0 = 0) ∧ (ptE x (n0 + 1) ≠ 1 → 33 ≤ byS x n0 ∧ byS x n0 ≤ 126) then 1 else 0; rw [← hn]; split <;> omega) (by exact hE1) (by omega) (by omega) H locs hM hS ls (lv_sub hl [0, 3, 2, 1, 5, 6] rfl)
            · refine lv_iload hx hb dX7_put_54 (lv_at hl 0 rfl) ?_
              refine x_if_eq (tgt := 67) hx hb dX7_put_56 (by decide) (by decide) (fun q => absurd q (by decide)) (fun _ => ?_)
              refine lv_iload hx hb dX7_put_59 (lv_at hl 1 rfl) ?_
              refine x_if_ne (tgt := 83) hx hb dX7_put_61 (by decide) (by omega) (fun c_61 => ?_) (fun c_61 => ?_)
              · refine x_iconst hx hb dX7_put_83 ?_
                refine lv_istore (lv' := [(4, .int (zI 0)), (5, .int (zI 1)), (7, .int (zI (byS x k))), (6, .int (zI k)), (3, .int (zI mny)), (0, .ref (a 0)), (1, .long (zL x))]) hx hb dX7_put_84 hl (by decide) rfl (fun ls hl => ?_)
                refine lv_iload_n hx hb dX7_put_86 rfl (lv_at hl 4 rfl) ?_
                refine lv_iload hx hb dX7_put_87 (lv_at hl 1 rfl) ?_
                refine x_if_eq (tgt := 96) hx hb dX7_put_89 (by decide) (by decide) (fun q => absurd q (by decide)) (fun _ => ?_)
                refine x_iconst hx hb dX7_put_92 ?_
                refine lv_goto (tgt := 97) hx hb dX7_put_93 (by decide) ?_
                refine x_iadd hx hb dX7_put_97 ?_
                refine lv_istore_n (lv' := [(3, .int (zI (mny + 0))), (4, .int (zI 0)), (5, .int (zI 1)), (7, .int (zI (byS x k))), (6, .int (zI k)), (0, .ref (a 0)), (1, .long (zL x))]) hx hb dX7_put_98 rfl hl (by decide) rfl (fun ls hl => ?_)
                refine x_iinc (x := k) (lv' := [(6, .int (zI (k + 1))), (3, .int (zI (mny + 0))), (4, .int (zI 0)), (5, .int (zI 1)), (7, .int (zI (byS x k))), (0, .ref (a 0)), (1, .long (zL x))]) hx hb dX7_put_99 hl (k := 4) rfl (by decide) rfl (fun ls hl => ?_)
                refine lv_goto (tgt := 11) hx hb dX7_put_102 (by decide) ?_
                exact ih11 (k + 1) 1 0 (mny + 0) (n0 + 1) (by omega) (by omega) (by omega) (by show _ = ptM x n0 + (if ptE x (n0 + 1) = 1 then 0 else 1); split <;> omega) (by show _ = if ptR x n0 = 1 ∧ (ptE x (n0 + 1) = 1 → byS x n0 = 0) ∧ (ptE x (n0 + 1) ≠ 1 → 33 ≤ byS x n0 ∧ byS x n0 ≤ 126) then 1 else 0; rw [← hn]; split <;> omega) (by exact hE1) (by omega) (by omega) H locs hM hS ls (lv_sub hl [0, 3, 2, 1, 5, 6] rfl)
              · refine lv_goto (tgt := 79) hx hb dX7_put_64 (by decide) ?_
                refine x_iconst hx hb dX7_put_79 ?_
                refine lv_goto (tgt := 84) hx hb dX7_put_80 (by decide) ?_
                refine lv_istore (lv' := [(4, .int (zI 1)), (5, .int (zI 1)), (7, .int (zI (byS x k))), (6, .int (zI k)), (3, .int (zI mny)), (0, .ref (a 0)), (1, .long (zL x))]) hx hb dX7_put_84 hl (by decide) rfl (fun ls hl => ?_)
                refine lv_iload_n hx hb dX7_put_86 rfl (lv_at hl 4 rfl) ?_
                refine lv_iload hx hb dX7_put_87 (lv_at hl 1 rfl) ?_
                refine x_if_eq (tgt := 96) hx hb dX7_put_89 (by decide) (by decide) (fun q => absurd q (by decide)) (fun _ => ?_)
                refine x_iconst hx hb dX7_put_92 ?_
                refine lv_goto (tgt := 97) hx hb dX7_put_93 (by decide) ?_
                refine x_iadd hx hb dX7_put_97 ?_
                refine lv_istore_n (lv' := [(3, .int (zI (mny + 0))), (4, .int (zI 1)), (5, .int (zI 1)), (7, .int (zI (byS x k))), (6, .int (zI k)), (0, .ref (a 0)), (1, .long (zL x))]) hx hb dX7_put_98 rfl hl (by decide) rfl (fun ls hl => ?_)
                refine x_iinc (x := k) (lv' := [(6, .int (zI (k + 1))), (3, .int (zI (mny + 0))), (4, .int (zI 1)), (5, .int (zI 1)), (7, .int (zI (byS x k))), (0, .ref (a 0)), (1, .long (zL x))]) hx hb dX7_put_99 hl (k := 4) rfl (by decide) rfl (fun ls hl => ?_)
                refine lv_goto (tgt := 11) hx hb dX7_put_102 (by decide) ?_
                exact ih11 (k + 1) 1 1 (mny + 0) (n0 + 1) (by omega) (by omega) (by omega) (by show _ = ptM x n0 + (if ptE x (n0 + 1) = 1 then 0 else 1); split <;> omega) (by show _ = if ptR x n0 = 1 ∧ (ptE x (n0 + 1) = 1 → byS x n0 = 0) ∧ (ptE x (n0 + 1) ≠ 1 → 33 ≤ byS x n0 ∧ byS x n0 ≤ 126) then 1 else 0; rw [← hn]; split <;> omega) (by exact hE1) (by omega) (by omega) H locs hM hS ls (lv_sub hl [0, 3, 2, 1, 5, 6] rfl)
  exact lp11 ((8 - (0 : Int)).toNat + 1) 0 0 1 0 0 (Nat.lt_succ_self _) (by omega) (by omega) (by rfl) (by rfl) (by rfl) (by omega) (by omega) s.heap [] hM hS ls (lv_sub hl [0, 1, 2, 3, 4, 5] rfl)
set_option maxHeartbeats 4000000 in
set_option maxRecDepth 100000 in
theorem c_X7_wipe (l : Launch) (D : va_G) (cs : Nat → ClassId) (a : Int → Nat) (σ : Int → Int) (pa : Int → Int) (sl : Int → Int) (sv : Int → Int) (pd : Int → Int) (kn : Int) (ln : Int) (hI : mI a) : kM D cs l yX7_wipe wsX7_wipe ({ frames := 0, cells := 0, slots := 0, locals := 0 } : Room) [.ref (a 0)] (fun H => mAt D cs a σ pa sl sv pd kn ln H) (some (.int (zI ln))) (fun H => mAt D cs a σ pa sl sv pd kn 0 H) (mC a) := by
  refine Met.ofW (cc := cX7_wipe) (maxL := 2) (ret := (some .int)) (by decide) rfl ?_
  intro p e s m args below meth c s₁ B hml hv
  obtain ⟨rfl, hK, hM⟩ := hv
  have hx := B.exec
  have hb := B.bytes
  have hr := B.returns
  have hts := atoms_spec (ws := wsX7_wipe) B.pre
  have hown : s.vm.findClass RX7 = some m.cls := findClass_of_methodNamed B.named
  have hlocks := B.notSynchronized
  have S : CallFix p m c cX7_wipe 2 s (([.ref (a 0)] : List Value)).toArray wsX7_wipe RX7 := ⟨hx, hb, hml, hown, hts⟩
  have hin7 : ∀ w ∈ wsX70, w ∈ wsX7_wipe := by decide +kernel
  have hS : va_S (mC a) s.heap s.heap [] := va_S.rf
  have hl := lv_entry ([.ref (a 0)]) (n := 2) (Nat.le_of_ble_eq_true rfl)
  rw [lg_entry_eq]
  generalize (lg_sl ([.ref (a 0)]) ++ List.replicate (2 - (lg_sl ([.ref (a 0)])).length) Slot.unset).toArray = ls at hl ⊢
  have hl : lv_has ls 2 [(0, .ref (a 0))] := hl
  refine lv_aload_n hx hb dX7_wipe_0 rfl (lv_at hl 0 rfl) ?_
  refine m_g_length S hin7 hK hM (hts (.fieldLink RX7 135 "EnergyDiscsModel" "length" "I") (by decide +kernel)) dX7_wipe_1 ?_
  refine lv_istore_n (lv' := [(1, .int (zI ln)), (0, .ref (a 0))]) hx hb dX7_wipe_4 rfl hl (by decide) rfl (fun ls hl => ?_)
  refine lv_aload_n hx hb dX7_wipe_5 rfl (lv_at hl 1 rfl) ?_
  refine x_iconst hx hb dX7_wipe_6 ?_
  refine m_p_length S hin7 hK hM hI hS (hts (.fieldLink RX7 135 "EnergyDiscsModel" "length" "I") (by decide +kernel)) dX7_wipe_7 (fun H locs hM hS => ?_)
  refine lv_iload_n hx hb dX7_wipe_10 rfl (lv_at hl 0 rfl) ?_
  exact x_iretM hx hb hr hlocks (by first | rfl | omega) hM hS dX7_wipe_11
set_option maxHeartbeats 4000000 in
set_option maxRecDepth 100000 in
theorem c_X7_digit (l : Launch) (D : va_G) (cs : Nat → ClassId) (a : Int → Nat) (σ : Int → Int) (pa : Int → Int) (sl : Int → Int) (sv : Int → Int) (pd : Int → Int) (kn : Int) (ln : Int) (q : Int) (hpd : pOK pd ln) (hq : 0 ≤ q ∧ q < 200) : kR D cs l yX7_digit wsX7_digit ({ frames := 1, cells := 0, slots := 0, locals := 22 } : Room) [.ref (a 0), .int (zI q)] (fun H => mAt D cs a σ pa sl sv pd kn ln H) (some (.int (zI (dgS pd ln q)))) := by
  refine Met.ofW (cc := cX7_digit) (maxL := 2) (ret := (some .int)) (by decide) rfl ?_
  intro p e s m args below meth c s₁ B hml hv
  obtain ⟨rfl, hK, hM⟩ := hv
  have hx := B.exec
  have hb := B.bytes
  have hr := B.returns
  have hts := atoms_spec (ws := wsX7_digit) B.pre
  have hown : s.vm.findClass RX7 = some m.cls := findClass_of_methodNamed B.named
  have hlocks := B.notSynchronized
  have S : CallFix p m c cX7_digit 2 s (([.ref (a 0), .int (zI q)] : List Value)).toArray wsX7_digit RX7 := ⟨hx, hb, hml, hown, hts⟩
  have hin7 : ∀ w ∈ wsX70, w ∈ wsX7_digit := by decide +kernel
  have hl := lv_entry ([.ref (a 0), .int (zI q)]) (n := 2) (Nat.le_of_ble_eq_true rfl)
  rw [lg_entry_eq]
  generalize (lg_sl ([.ref (a 0), .int (zI q)]) ++ List.replicate (2 - (lg_sl ([.ref (a 0), .int (zI q)])).length) Slot.unset).toArray = ls at hl ⊢
  have hl : lv_has ls 2 [(0, .ref (a 0)), (1, .int (zI q))] := hl
  have hl0 := hpd.1
  refine lv_iload_n hx hb dX7_digit_0 rfl (lv_at hl 1 rfl) ?_
  refine lv_aload_n hx hb dX7_digit_1 rfl (lv_at hl 0 rfl) ?_
  refine m_g_length S hin7 hK hM (hts (.fieldLink RX7 135 "EnergyDiscsModel" "length" "I") (by decide +kernel)) dX7_digit_2 ?_
  refine x_icmp_ge (tgt := 36) hx hb dX7_digit_5 (by decide) (by omega) (by omega) (fun c_5 => ?_) (fun c_5 => ?_)
  · refine x_iconst hx hb dX7_digit_36 ?_
    exact x_iretR hx hb hr hlocks (by unfold dgS; first | (rw [if_pos (by omega)]) | (rw [if_neg (by omega)])) rfl dX7_digit_37
  · have hc := hpd.2 q hq.1 (by omega)
    refine lv_aload_n hx hb dX7_digit_8 rfl (lv_at hl 0 rfl) ?_
    refine m_g_pad S hin7 hK hM (hts (.fieldLink RX7 23 "EnergyDiscsModel" "pad" "[I") (by decide +kernel)) dX7_digit_9 ?_
    refine lv_iload_n hx hb dX7_digit_12 rfl (lv_at hl 1 rfl) ?_
    refine m_l_pad S hK hM (by omega) dX7_digit_13 ?_
    refine x_bipush hx hb dX7_digit_14 (by decide +kernel) ?_
    refine x_bipush hx hb dX7_digit_16 (by decide +kernel) ?_
    refine x_callSR (As := [.int (zI (pd q)), .int (zI 48), .int (zI 57)]) (rest := []) S hK (c_X7_in l D cs (pd q) 48 57 (by omega) (by omega) (by omega)) (va_cwS 3 hts gX7_digit_X7_in rfl rfl rfl (by decide +kernel) ⟨(Nat.le_of_ble_eq_true rfl), (Nat.le_of_ble_eq_true rfl)⟩) trivial rfl hl.1 (Nat.le_of_ble_eq_true rfl) dX7_digit_18 ⟨Nat.zero_le _, Nat.zero_le _⟩ ?_
    refine x_ifb_eq (tgt := 36) hx hb dX7_digit_21 (by decide)  (fun c_21 => ?_) (fun c_21 => ?_)
    · refine x_iconst hx hb dX7_digit_36 ?_
      exact x_iretR hx hb hr hlocks (by unfold dgS; first | (rw [if_pos (by omega)]) | (rw [if_neg (by omega)])) rfl dX7_digit_37
    · have hc := hpd.2 q hq.1 (by omega)
      refine lv_aload_n hx hb dX7_digit_24 rfl (lv_at hl 0 rfl) ?_
      refine m_g_pad S hin7 hK hM (hts (.fieldLink RX7 23 "EnergyDiscsModel" "pad" "[I") (by decide +kernel)) dX7_digit_25 ?_
      refine lv_iload_n hx hb dX7_digit_28 rfl (lv_at hl 1 rfl) ?_
      refine m_l_pad S hK hM (by omega) dX7_digit_29 ?_
      refine x_bipush hx hb dX7_digit_30 (by decide +kernel) ?_
      refine x_isub hx hb dX7_digit_32 ?_
      refine lv_goto (tgt := 37) hx hb dX7_digit_33 (by decide) ?_
      exact x_iretR hx hb hr hlocks (by unfold dgS; first | (rw [if_pos (by omega)]) | (rw [if_neg (by omega)])) rfl dX7_digit_37
set_option maxHeartbeats 4000000 in
set_option maxRecDepth 100000 in
theorem c_X7_code (l : Launch) (D : va_G) (cs : Nat → ClassId) (a : Int → Nat) (σ : Int → Int) (pa : Int → Int) (sl : Int → Int) (sv : Int → Int) (pd : Int → Int) (kn : Int) (ln : Int) (q : Int) (hpd : pOK pd ln) (hq : 0 ≤ q ∧ q < 200) : kR D cs l yX7_code wsX7_code ({ frames := 0, cells := 0, slots := 0, locals := 0 } : Room) [.ref (a 0), .int (zI q)] (fun H => mAt D cs a σ pa sl sv pd kn ln H) (some (.int (zI (cdS pd ln q)))) := by
  refine Met.ofW (cc := cX7_code) (maxL := 2) (ret := (some .int)) (by decide) rfl ?_
  intro p e s m args below meth c s₁ B hml hv
  obtain ⟨rfl, hK, hM⟩ := hv
  have hx := B.exec
  have hb := B.bytes
  have hr := B.returns
  have hts := atoms_spec (ws := wsX7_code) B.pre
  have hown : s.vm.findClass RX7 = some m.cls := findClass_of_methodNamed B.named
  have hlocks := B.notSynchronized
  have S : CallFix p m c cX7_code 2 s (([.ref (a 0), .int (zI q)] : List Value)).toArray wsX7_code RX7 := ⟨hx, hb, hml, hown, hts⟩
  have hin7 : ∀ w ∈ wsX70, w ∈ wsX7_code := by decide +kernel
  have hl := lv_entry ([.ref (a 0), .int (zI q)]) (n := 2) (Nat.le_of_ble_eq_true rfl)
  rw [lg_entry_eq]
  generalize (lg_sl ([.ref (a 0), .int (zI q)]) ++ List.replicate (2 - (lg_sl ([.ref (a 0), .int (zI q)])).length) Slot.unset).toArray = ls at hl ⊢
  have hl : lv_has ls 2 [(0, .ref (a 0)), (1, .int (zI q))] := hl
  have hl0 := hpd.1
  refine lv_iload_n hx hb dX7_code_0 rfl (lv_at hl 1 rfl) ?_
  refine lv_aload_n hx hb dX7_code_1 rfl (lv_at hl 0 rfl) ?_
  refine m_g_length S hin7 hK hM (hts (.fieldLink RX7 135 "EnergyDiscsModel" "length" "I") (by decide +kernel)) dX7_code_2 ?_
  refine x_icmp_ge (tgt := 17) hx hb dX7_code_5 (by decide) (by omega) (by omega) (fun c_5 => ?_) (fun c_5 => ?_)
  · refine x_iconst hx hb dX7_code_17 ?_
    exact x_iretR hx hb hr hlocks (by unfold cdS; first | (rw [if_pos (by omega)]) | (rw [if_neg (by omega)])) rfl dX7_code_18
  · refine lv_aload_n hx hb dX7_code_8 rfl (lv_at hl 0 rfl) ?_
    refine m_g_pad S hin7 hK hM (hts (.fieldLink RX7 23 "EnergyDiscsModel" "pad" "[I") (by decide +kernel)) dX7_code_9 ?_
    refine lv_iload_n hx hb dX7_code_12 rfl (lv_at hl 1 rfl) ?_
    refine m_l_pad S hK hM (by omega) dX7_code_13 ?_
    refine lv_goto (tgt := 18) hx hb dX7_code_14 (by decide) ?_
    exact x_iretR hx hb hr hlocks (by unfold cdS; first | (rw [if_pos (by omega)]) | (rw [if_neg (by omega)])) rfl dX7_code_18
set_option maxHeartbeats 4000000 in
set_option maxRecDepth 100000 in
theorem c_X7_numberEnd (l : Launch) (D : va_G) (cs : Nat → ClassId) (a : Int → Nat) (σ : Int → Int) (pa : Int → Int) (sl : Int → Int) (sv : Int → Int) (pd : Int → Int) (kn : Int) (ln : Int) (q : Int) (hpd : pOK pd ln) (hq : 0 ≤ q ∧ q < 150) : kR D cs l yX7_numberEnd wsX7_numberEnd ({ frames := 2, cells := 0, slots := 0, locals := 43 } : Room) [.ref (a 0), .int (zI q)] (fun H => mAt D cs a σ pa sl sv pd kn ln H) (some (.int (zI (nend pd ln q)))) := by
  refine Met.ofW (cc := cX7_numberEnd) (maxL := 3) (ret := (some .int)) (by decide) rfl ?_
  intro p e s m args below meth c s₁ B hml hv
  obtain ⟨rfl, hK, hM⟩ := hv
  have hx := B.exec
  have hb := B.bytes
  have hr := B.returns
  have hts := atoms_spec (ws := wsX7_numberEnd) B.pre
  have hown : s.vm.findClass RX7 = some m.cls := findClass_of_methodNamed B.named
  have hlocks := B.notSynchronized
  have S : CallFix p m c cX7_numberEnd 3 s (([.ref (a 0), .int (zI q)] : List Value)).toArray wsX7_numberEnd RX7 := ⟨hx, hb, hml, hown, hts⟩
  have hl := lv_entry ([.ref (a 0), .int (zI q)]) (n := 3) (Nat.le_of_ble_eq_true rfl)
  rw [lg_entry_eq]
  generalize (lg_sl ([.ref (a 0), .int (zI q)]) ++ List.replicate (3 - (lg_sl ([.ref (a 0), .int (zI q)])).length) Slot.unset).toArray = ls at hl ⊢
  have hl : lv_has ls 3 [(0, .ref (a 0)), (1, .int (zI q))] := hl
  have d0 := dgS_rng pd ln q
  refine lv_aload_n hx hb dX7_numberEnd_0 rfl (lv_at hl 0 rfl) ?_
  refine lv_iload_n hx hb dX7_numberEnd_1 rfl (lv_at hl 1 rfl) ?_
  refine x_callVR (As := [.int (zI q)]) (rest := []) S hK (c_X7_digit l D cs a σ pa sl sv pd kn ln q (by exact hpd) (by omega)) (cwV 1 hts gX7_numberEnd_X7_digit rfl rfl rfl (by decide +kernel) ⟨(Nat.le_of_ble_eq_true rfl), (Nat.le_of_ble_eq_true rfl)⟩) (x_rc hK (mAt_0 hM) rfl) hM rfl hl.1 (Nat.le_of_ble_eq_true rfl) dX7_numberEnd_2 ⟨Nat.zero_le _, Nat.zero_le _⟩ ?_
  refine x_if_ge (tgt := 12) hx hb dX7_numberEnd_5 (by decide) (by omega) (fun c_5 => ?_) (fun c_5 => ?_)
  · refine lv_iload_n hx hb dX7_numberEnd_12 rfl (lv_at hl 1 rfl) ?_
    refine x_iconst hx hb dX7_numberEnd_13 ?_
    refine x_iadd hx hb dX7_numberEnd_14 ?_
    refine lv_istore_n (lv' := [(2, .int (zI (q + 1))), (0, .ref (a 0)), (1, .int (zI q))]) hx hb dX7_numberEnd_15 rfl hl (by decide) rfl (fun ls hl => ?_)
    have lp16 : ∀ (n : Nat) (e0 : Int), (q + 5 - e0).toNat < n → (e0 = q + 1 ∨ (e0 = q + 2 ∧ 0 < dgS pd ln q ∧ 0 ≤ dgS pd ln (q + 1)) ∨ (e0 = q + 3 ∧ 0 < dgS pd ln q ∧ 0 ≤ dgS pd ln (q + 1) ∧ 0 ≤ dgS pd ln (q + 2)) ∨ (e0 = q + 4 ∧ 0 < dgS pd ln q ∧ 0 ≤ dgS pd ln (q + 1) ∧ 0 ≤ dgS pd ln (q + 2) ∧ 0 ≤ dgS pd ln (q + 3))) → ∀ (ls : Array Slot), lv_has ls 3 [(2, .int (zI e0)), (0, .ref (a 0)), (1, .int (zI q))] → W p l e (headSpec wsX7_numberEnd ({ frames := 2, cells := 0, slots := 0, locals := 43 } : Room)).room s m ([.ref (a 0), .int (zI q)] : List Value).toArray below meth c s.heap [] 0 0 (MQ below (kS (some (.int (zI (nend pd ln q))))) ([.ref (a 0), .int (zI q)] : List Value).toArray s 0 0 (fun _ => False)) (F0 m 16 ls []) := by
      intro n
      induction n with
      | zero => intro e0 hms; exact absurd hms (Nat.not_lt_zero _)
      | succ n ih =>
        intro e0 hms he ls hl
        have de := dgS_rng pd ln e0
        have ih16 := ih
        clear ih
        refine lv_aload_n hx hb dX7_numberEnd_16 rfl (lv_at hl 1 rfl) ?_
        refine lv_iload_n hx hb dX7_numberEnd_17 rfl (lv_at hl 2 rfl) ?_
        refine x_callVR (As := [.int (zI q)]) (rest := []) S hK (c_X7_digit l D cs a σ pa sl sv pd kn ln q (by exact hpd) (by omega)) (cwV 1 hts gX7_numberEnd_X7_digit rfl rfl rfl (by decide +kernel) ⟨(Nat.le_of_ble_eq_true rfl), (Nat.le_of_ble_eq_true rfl)⟩) (x_rc hK (mAt_0 hM) rfl) hM rfl hl.1 (Nat.le_of_ble_eq_true rfl) dX7_numberEnd_18 ⟨Nat.zero_le _, Nat.zero_le _⟩ ?_
        refine x_if_le (tgt := 45) hx hb dX7_numberEnd_21 (by decide) (by omega) (fun c_21 => ?_) (fun c_21 => ?_)
        · refine lv_iload_n hx hb dX7_numberEnd_45 rfl (lv_at hl 0 rfl) ?_
          exact x_iretR hx hb hr hlocks (by unfold nend; rcases he with h | ⟨h, h2⟩ | ⟨h, h2⟩ | ⟨h, h2⟩ <;> (try rw [h] at c_36) <;> (repeat' split) <;> omega) rfl dX7_numberEnd_46
        · refine lv_iload_n hx hb dX7_numberEnd_24 rfl (lv_at hl 0 rfl) ?_
          refine lv_iload_n hx hb dX7_numberEnd_25 rfl (lv_at hl 2 rfl) ?_
          refine x_iconst hx hb dX7_numberEnd_26 ?_
          refine x_iadd hx hb dX7_numberEnd_27 ?_
          refine x_icmp_ge (tgt := 45) hx hb dX7_numberEnd_28 (by decide) (by omega) (by omega) (fun c_28 => ?_) (fun c_28 => ?_)
          · refine lv_iload_n hx hb dX7_numberEnd_45 rfl (lv_at hl 0 rfl) ?_
            exact x_iretR hx hb hr hlocks (by unfold nend; rcases he with h | ⟨h, h2⟩ | ⟨h, h2⟩ | ⟨h, h2⟩ <;> (try rw [h] at c_36) <;> (repeat' split) <;> omega) rfl dX7_numberEnd_46
          · refine lv_aload_n hx hb dX7_numberEnd_31 rfl (lv_at hl 1 rfl) ?_
            refine lv_iload_n hx hb dX7_numberEnd_32 rfl (lv_at hl 0 rfl) ?_
            refine x_callVR (As := [.int (zI e0)]) (rest := []) S hK (c_X7_digit l D cs a σ pa sl sv pd kn ln e0 (by exact hpd) (by omega)) (cwV 1 hts gX7_numberEnd_X7_digit rfl rfl rfl (by decide +kernel) ⟨(Nat.le_of_ble_eq_true rfl), (Nat.le_of_ble_eq_true rfl)⟩) (x_rc hK (mAt_0 hM) rfl) hM rfl hl.1 (Nat.le_of_ble_eq_true rfl) dX7_numberEnd_33 ⟨Nat.zero_le _, Nat.zero_le _⟩ ?_
            refine x_if_lt (tgt := 45) hx hb dX7_numberEnd_36 (by decide) (by omega) (fun c_36 => ?_) (fun c_36 => ?_)
            · refine lv_iload_n hx hb dX7_numberEnd_45 rfl (lv_at hl 0 rfl) ?_
              exact x_iretR hx hb hr hlocks (by unfold nend; rcases he with h | ⟨h, h2⟩ | ⟨h, h2⟩ | ⟨h, h2⟩ <;> (try rw [h] at c_36) <;> (repeat' split) <;> omega) rfl dX7_numberEnd_46
            · refine x_iinc (x := e0) (lv' := [(2, .int (zI (e0 + 1))), (0, .ref (a 0)), (1, .int (zI q))]) hx hb dX7_numberEnd_39 hl (k := 0) rfl (by decide) rfl (fun ls hl => ?_)
              refine lv_goto (tgt := 16) hx hb dX7_numberEnd_42 (by decide) ?_
              exact ih16 (e0 + 1) (by omega) (by rcases he with h | ⟨h, h2⟩ | ⟨h, h2⟩ | ⟨h, h2⟩ <;> rw [h] at c_36 <;> omega) ls (lv_sub hl [0, 1, 2] rfl)
    exact lp16 ((q + 5 - (q + 1)).toNat + 1) (q + 1) (Nat.lt_succ_self _) (by omega) ls (lv_sub hl [0, 1, 2] rfl)
  · refine x_iconst hx hb dX7_numberEnd_8 ?_
    refine lv_iload_n hx hb dX7_numberEnd_9 rfl (lv_at hl 1 rfl) ?_
    refine x_isub hx hb dX7_numberEnd_10 ?_
    exact x_iretR hx hb hr hlocks (by unfold nend; rw [if_pos (by omega)]) rfl dX7_numberEnd_11
set_option maxHeartbeats 4000000 in
set_option maxRecDepth 100000 in
theorem c_X7_numberAt (l : Launch) (D : va_G) (cs : Nat → ClassId) (a : Int → Nat) (σ : Int → Int) (pa : Int → Int) (sl : Int → Int) (sv : Int → Int) (pd : Int → Int) (kn : Int) (ln : Int) (q : Int) (hpd : pOK pd ln) (hq : 0 ≤ q ∧ q < 150) : kR D cs l yX7_numberAt wsX7_numberAt ({ frames := 3, cells := 0, slots := 0, locals := 65 } : Room) [.ref (a 0), .int (zI q)] (fun H => mAt D cs a σ pa sl sv pd kn ln H) (some (.int (zI (numA pd ln q)))) := by
  refine Met.ofW (cc := cX7_numberAt) (maxL := 4) (ret := (some .int)) (by decide) rfl ?_
  intro p e s m args below meth c s₁ B hml hv
  obtain ⟨rfl, hK, hM⟩ := hv
  have hx := B.exec
  have hb := B.bytes
  have hr := B.returns
  have hts := atoms_spec (ws := wsX7_numberAt) B.pre
  have hown : s.vm.findClass RX7 = some m.cls := findClass_of_methodNamed B.named
  have hlocks := B.notSynchronized
  have S : CallFix p m c cX7_numberAt 4 s (([.ref (a 0), .int (zI q)] : List Value)).toArray wsX7_numberAt RX7 := ⟨hx, hb, hml, hown, hts⟩
  have hl := lv_entry ([.ref (a 0), .int (zI q)]) (n := 4) (Nat.le_of_ble_eq_true rfl)
  rw [lg_entry_eq]
  generalize (lg_sl ([.ref (a 0), .int (zI q)]) ++ List.replicate (4 - (lg_sl ([.ref (a 0), .int (zI q)])).length) Slot.unset).toArray = ls at hl ⊢
  have hl : lv_has ls 4 [(0, .ref (a 0)), (1, .int (zI q))] := hl
  have hne := nend_rng pd ln q
  have hdg := nend_dig (pd := pd) (ln := ln) hq.1
  refine x_iconst hx hb dX7_numberAt_0 ?_
  refine lv_istore_n (lv' := [(2, .int (zI 0)), (0, .ref (a 0)), (1, .int (zI q))]) hx hb dX7_numberAt_1 rfl hl (by decide) rfl (fun ls hl => ?_)
  refine lv_iload_n hx hb dX7_numberAt_2 rfl (lv_at hl 2 rfl) ?_
  refine lv_istore_n (lv' := [(3, .int (zI q)), (2, .int (zI 0)), (0, .ref (a 0)), (1, .int (zI q))]) hx hb dX7_numberAt_3 rfl hl (by decide) rfl (fun ls hl => ?_)
  have lp4 : ∀ (n : Nat) (k1 : Int) (v1 : Int) (n0 : Nat), (q + 5 - k1).toNat < n → (k1 = q + (n0 : Int)) → (v1 = nval pd ln q n0) → (k1 ≤ nend pd ln q ∨ n0 = 0) → (k1 ≤ q + 4) → ∀ (ls : Array Slot), lv_has ls 4 [(3, .int (zI k1)), (2, .int (zI v1)), (0, .ref (a 0)), (1, .int (zI q))] → W p l e (headSpec wsX7_numberAt ({ frames := 3, cells := 0, slots := 0, locals := 65 } : Room)).room s m ([.ref (a 0), .int (zI q)] : List Value).toArray below meth c s.heap [] 0 0 (MQ below (kS (some (.int (zI (numA pd ln q))))) ([.ref (a 0), .int (zI q)] : List Value).toArray s 0 0 (fun _ => False)) (F0 m 4 ls []) := by
    intro n
    induction n with
    | zero => intro k1 v1 n0 hms; exact absurd hms (Nat.not_lt_zero _)
    | succ n ih =>
      intro k1 v1 n0 hms i1 i2 i3 i4 ls hl
      have ih4 := ih
      clear ih
      refine lv_iload_n hx hb dX7_numberAt_4 rfl (lv_at hl 0 rfl) ?_
      refine lv_aload_n hx hb dX7_numberAt_5 rfl (lv_at hl 2 rfl) ?_
      refine lv_iload_n hx hb dX7_numberAt_6 rfl (lv_at hl 3 rfl) ?_
      refine x_callVR (As := [.int (zI q)]) (rest := [.int (zI k1)]) S hK (c_X7_numberEnd l D cs a σ pa sl sv pd kn ln q (by exact hpd) (by omega)) (cwV 1 hts gX7_numberAt_X7_numberEnd rfl rfl rfl (by decide +kernel) ⟨(Nat.le_of_ble_eq_true rfl), (Nat.le_of_ble_eq_true rfl)⟩) (x_rc hK (mAt_0 hM) rfl) hM rfl hl.1 (Nat.le_of_ble_eq_true rfl) dX7_numberAt_7 ⟨Nat.zero_le _, Nat.zero_le _⟩ ?_
      refine x_icmp_ge (tgt := 30) hx hb dX7_numberAt_10 (by decide) (by omega) (by omega) (fun c_10 => ?_) (fun c_10 => ?_)
      · refine lv_iload_n hx hb dX7_numberAt_30 rfl (lv_at hl 1 rfl) ?_
        exact x_iretR hx hb hr hlocks (by rw [i2]; unfold numA; congr 1; omega) rfl dX7_numberAt_31
      · refine x_bipush hx hb dX7_numberAt_13 (by decide +kernel) ?_
        refine lv_iload_n hx hb dX7_numberAt_15 rfl (lv_at hl 1 rfl) ?_
        refine x_imul hx hb dX7_numberAt_16 ?_
        refine lv_aload_n hx hb dX7_numberAt_17 rfl (lv_at hl 2 rfl) ?_
        refine lv_iload_n hx hb dX7_numberAt_18 rfl (lv_at hl 0 rfl) ?_
        refine x_callVR (As := [.int (zI k1)]) (rest := [.int (zI (10 * v1))]) S hK (c_X7_digit l D cs a σ pa sl sv pd kn ln k1 (by exact hpd) (by omega)) (cwV 1 hts gX7_numberAt_X7_digit rfl rfl rfl (by decide +kernel) ⟨(Nat.le_of_ble_eq_true rfl), (Nat.le_of_ble_eq_true rfl)⟩) (x_rc hK (mAt_0 hM) rfl) hM rfl hl.1 (Nat.le_of_ble_eq_true rfl) dX7_numberAt_19 ⟨Nat.zero_le _, Nat.zero_le _⟩ ?_
        refine x_iadd hx hb dX7_numberAt_22 ?_
        refine lv_istore_n (lv' := [(2, .int (zI ((10 * v1) + (dgS pd ln k1)))), (3, .int (zI k1)), (0, .ref (a 0)), (1, .int (zI q))]) hx hb dX7_numberAt_23 rfl hl (by decide) rfl (fun ls hl => ?_)
        refine x_iinc (x := k1) (lv' := [(3, .int (zI (k1 + 1))), (2, .int (zI ((10 * v1) + (dgS pd ln k1)))), (0, .ref (a 0)), (1, .int (zI q))]) hx hb dX7_numberAt_24 hl (k := 1) rfl (by decide) rfl (fun ls hl => ?_)
        refine lv_goto (tgt := 4) hx hb dX7_numberAt_27 (by decide) ?_
        exact ih4 (k1 + 1) ((10 * v1) + (dgS pd ln k1)) (n0 + 1) (by omega) (by omega) (by rw [i2, i1]; rfl) (by omega) (by omega) ls (lv_sub hl [0, 1, 2, 3] rfl)
  exact lp4 ((q + 5 - q).toNat + 1) q 0 0 (Nat.lt_succ_self _) (by omega) (by rfl) (by omega) (by omega) ls (lv_sub hl [0, 1, 2, 3] rfl)
set_option maxHeartbeats 4000000 in
set_option maxRecDepth 100000 in
theorem c_X7_orderEnd (l : Launch) (D : va_G) (cs : Nat → ClassId) (a : Int → Nat) (σ : Int → Int) (pa : Int → Int) (sl : Int → Int) (sv : Int → Int) (pd : Int → Int) (kn : Int) (ln : Int) (q : Int) (hpd : pOK pd ln) (hq : 0 ≤ q ∧ q < 100) : kR D cs l yX7_orderEnd wsX7_orderEnd ({ frames := 3, cells := 0, slots := 0, locals := 65 } : Room) [.ref (a 0), .int (zI q)] (fun H => mAt D cs a σ pa sl sv pd kn ln H) (some (.int (zI (ordE pd ln q)))) := by
  refine Met.ofW (cc := cX7_orderEnd) (maxL := 2) (ret := (some .int)) (by decide) rfl ?_
  intro p e s m args below meth c s₁ B hml hv
  obtain ⟨rfl, hK, hM⟩ := hv
  have hx := B.exec
  have hb := B.bytes
  have hr := B.returns
  have hts := atoms_spec (ws := wsX7_orderEnd) B.pre
  have hown : s.vm.findClass RX7 = some m.cls := findClass_of_methodNamed B.named
  have hlocks := B.notSynchronized
  have S : CallFix p m c cX7_orderEnd 2 s (([.ref (a 0), .int (zI q)] : List Value)).toArray wsX7_orderEnd RX7 := ⟨hx, hb, hml, hown, hts⟩
  have hl := lv_entry ([.ref (a 0), .int (zI q)]) (n := 2) (Nat.le_of_ble_eq_true rfl)
  rw [lg_entry_eq]
  generalize (lg_sl ([.ref (a 0), .int (zI q)]) ++ List.replicate (2 - (lg_sl ([.ref (a 0), .int (zI q)])).length) Slot.unset).toArray = ls at hl ⊢
  have hl : lv_has ls 2 [(0, .ref (a 0)), (1, .int (zI q))] := hl
  have hc0 := cdS_rng hpd hq.1
  have hd1 := dgS_rng pd ln (q + 1)
  have hn3 := nend_rng pd ln (q + 3)
  have hn1 := nend_rng pd ln (q + 1)
  refine lv_aload_n hx hb dX7_orderEnd_0 rfl (lv_at hl 0 rfl) ?_
  refine lv_iload_n hx hb dX7_orderEnd_1 rfl (lv_at hl 1 rfl) ?_
  refine x_callVR (As := [.int (zI q)]) (rest := []) S hK (c_X7_code l D cs a σ pa sl sv pd kn ln q (by first | exact hpd | omega) (by first | exact hpd | omega)) (cwV 1 hts gX7_orderEnd_X7_code rfl rfl rfl (by decide +kernel) ⟨(Nat.le_of_ble_eq_true rfl), (Nat.le_of_ble_eq_true rfl)⟩) (x_rc hK (mAt_0 hM) rfl) hM rfl hl.1 (Nat.le_of_ble_eq_true rfl) dX7_orderEnd_2 ⟨Nat.zero_le _, Nat.zero_le _⟩ ?_
  by_cases k_5_98 : cdS pd ln q = 98
  · refine x_look (off := 129) (tgt := 134) hx hb dX7_orderEnd_5 (by decide) (by rw [k_5_98]; rfl) (by first | exact hpd | omega) (by decide) ?_
    refine lv_aload_n hx hb dX7_orderEnd_134 rfl (lv_at hl 0 rfl) ?_
    refine lv_iload_n hx hb dX7_orderEnd_135 rfl (lv_at hl 1 rfl) ?_
    refine x_iconst hx hb dX7_orderEnd_136 ?_
    refine x_iadd hx hb dX7_orderEnd_137 ?_
    refine x_callVR (As := [.int (zI (q + 1))]) (rest := []) S hK (c_X7_digit l D cs a σ pa sl sv pd kn ln (q + 1) (by first | exact hpd | omega) (by first | exact hpd | omega)) (cwV 1 hts gX7_orderEnd_X7_digit rfl rfl rfl (by decide +kernel) ⟨(Nat.le_of_ble_eq_true rfl), (Nat.le_of_ble_eq_true rfl)⟩) (x_rc hK (mAt_0 hM) rfl) hM rfl hl.1 (Nat.le_of_ble_eq_true rfl) dX7_orderEnd_138 ⟨Nat.zero_le _, Nat.zero_le _⟩ ?_
    refine x_if_ge (tgt := 151) hx hb dX7_orderEnd_141 (by decide) (by first | exact hpd | omega) (fun c_141 => ?_) (fun c_141 => ?_)
    · refine lv_iload_n hx hb dX7_orderEnd_151 rfl (lv_at hl 1 rfl) ?_
      refine x_iconst hx hb dX7_orderEnd_152 ?_
      refine x_iadd hx hb dX7_orderEnd_153 ?_
      exact x_iretR hx hb hr hlocks (by unfold ordE; repeat (first | rw [if_pos (by omega)] | rw [if_neg (by omega)])) rfl dX7_orderEnd_154
    · refine x_bipush hx hb dX7_orderEnd_144 (by decide +kernel) ?_
      refine lv_iload_n hx hb dX7_orderEnd_146 rfl (lv_at hl 1 rfl) ?_
      refine x_isub hx hb dX7_orderEnd_147 ?_
      refine lv_goto (tgt := 154) hx hb dX7_orderEnd_148 (by decide) ?_
      exact x_iretR hx hb hr hlocks (by unfold ordE; repeat (first | rw [if_pos (by omega)] | rw [if_neg (by omega)])) rfl dX7_orderEnd_154
  by_cases k_5_108 : cdS pd ln q = 108
  · refine x_look (off := 79) (tgt := 84) hx hb dX7_orderEnd_5 (by decide) (by rw [k_5_108]; rfl) (by first | exact hpd | omega) (by decide) ?_
    refine lv_aload_n hx hb dX7_orderEnd_84 rfl (lv_at hl 0 rfl) ?_
    refine lv_iload_n hx hb dX7_orderEnd_85 rfl (lv_at hl 1 rfl) ?_
    refine x_iconst hx hb dX7_orderEnd_86 ?_
    refine x_iadd hx hb dX7_orderEnd_87 ?_
    refine x_callVR (As := [.int (zI (q + 1))]) (rest := []) S hK (c_X7_digit l D cs a σ pa sl sv pd kn ln (q + 1) (by first | exact hpd | omega) (by first | exact hpd | omega)) (cwV 1 hts gX7_orderEnd_X7_digit rfl rfl rfl (by decide +kernel) ⟨(Nat.le_of_ble_eq_true rfl), (Nat.le_of_ble_eq_true rfl)⟩) (x_rc hK (mAt_0 hM) rfl) hM rfl hl.1 (Nat.le_of_ble_eq_true rfl) dX7_orderEnd_88 ⟨Nat.zero_le _, Nat.zero_le _⟩ ?_
    refine x_if_ge (tgt := 99) hx hb dX7_orderEnd_91 (by decide) (by first | exact hpd | omega) (fun c_91 => ?_) (fun c_91 => ?_)
    · refine lv_aload_n hx hb dX7_orderEnd_99 rfl (lv_at hl 0 rfl) ?_
      refine lv_iload_n hx hb dX7_orderEnd_100 rfl (lv_at hl 1 rfl) ?_
      refine x_iconst hx hb dX7_orderEnd_101 ?_
      refine x_iadd hx hb dX7_orderEnd_102 ?_
      refine x_callVR (As := [.int (zI (q + 2))]) (rest := []) S hK (c_X7_code l D cs a σ pa sl sv pd kn ln (q + 2) (by first | exact hpd | omega) (by first | exact hpd | omega)) (cwV 1 hts gX7_orderEnd_X7_code rfl rfl rfl (by decide +kernel) ⟨(Nat.le_of_ble_eq_true rfl), (Nat.le_of_ble_eq_true rfl)⟩) (x_rc hK (mAt_0 hM) rfl) hM rfl hl.1 (Nat.le_of_ble_eq_true rfl) dX7_orderEnd_103 ⟨Nat.zero_le _, Nat.zero_le _⟩ ?_
      have hc2 := cdS_rng (p := q + 2) hpd (by omega)
      refine x_bipush hx hb dX7_orderEnd_106 (by decide +kernel) ?_
      refine x_icmp_ne (tgt := 121) hx hb dX7_orderEnd_108 (by decide) (by first | exact hpd | omega) (by first | exact hpd | omega) (fun c_108 => ?_) (fun c_108 => ?_)
      · refine x_bipush hx hb dX7_orderEnd_121 (by decide +kernel) ?_
        refine lv_iload_n hx hb dX7_orderEnd_123 rfl (lv_at hl 1 rfl) ?_
        refine x_isub hx hb dX7_orderEnd_124 ?_
        exact x_iretR hx hb hr hlocks (by unfold ordE; repeat (first | rw [if_pos (by omega)] | rw [if_neg (by omega)])) rfl dX7_orderEnd_125
      · refine lv_aload_n hx hb dX7_orderEnd_111 rfl (lv_at hl 0 rfl) ?_
        refine lv_iload_n hx hb dX7_orderEnd_112 rfl (lv_at hl 1 rfl) ?_
        refine x_iconst hx hb dX7_orderEnd_113 ?_
        refine x_iadd hx hb dX7_orderEnd_114 ?_
        refine x_callVR (As := [.int (zI (q + 3))]) (rest := []) S hK (c_X7_numberEnd l D cs a σ pa sl sv pd kn ln (q + 3) (by first | exact hpd | omega) (by first | exact hpd | omega)) (cwV 1 hts gX7_orderEnd_X7_numberEnd rfl rfl rfl (by decide +kernel) ⟨(Nat.le_of_ble_eq_true rfl), (Nat.le_of_ble_eq_true rfl)⟩) (x_rc hK (mAt_0 hM) rfl) hM rfl hl.1 (Nat.le_of_ble_eq_true rfl) dX7_orderEnd_115 ⟨Nat.zero_le _, Nat.zero_le _⟩ ?_
        refine lv_goto (tgt := 125) hx hb dX7_orderEnd_118 (by decide) ?_
        exact x_iretR hx hb hr hlocks (by unfold ordE; repeat (first | rw [if_pos (by omega)] | rw [if_neg (by omega)])) rfl dX7_orderEnd_125
    · refine x_bipush hx hb dX7_orderEnd_94 (by decide +kernel) ?_
      refine lv_iload_n hx hb dX7_orderEnd_96 rfl (lv_at hl 1 rfl) ?_
      refine x_isub hx hb dX7_orderEnd_97 ?_
      exact x_iretR hx hb hr hlocks (by unfold ordE; repeat (first | rw [if_pos (by omega)] | rw [if_neg (by omega)])) rfl dX7_orderEnd_98
  by_cases k_5_109 : cdS pd ln q = 109
  · refine x_look (off := 59) (tgt := 64) hx hb dX7_orderEnd_5 (by decide) (by rw [k_5_109]; rfl) (by first | exact hpd | omega) (by decide) ?_
    refine lv_aload_n hx hb dX7_orderEnd_64 rfl (lv_at hl 0 rfl) ?_
    refine lv_iload_n hx hb dX7_orderEnd_65 rfl (lv_at hl 1 rfl) ?_
    refine x_iconst hx hb dX7_orderEnd_66 ?_
    refine x_iadd hx hb dX7_orderEnd_67 ?_
    refine x_callVR (As := [.int (zI (q + 1))]) (rest := []) S hK (c_X7_digit l D cs a σ pa sl sv pd kn ln (q + 1) (by first | exact hpd | omega) (by first | exact hpd | omega)) (cwV 1 hts gX7_orderEnd_X7_digit rfl rfl rfl (by decide +kernel) ⟨(Nat.le_of_ble_eq_true rfl), (Nat.le_of_ble_eq_true rfl)⟩) (x_rc hK (mAt_0 hM) rfl) hM rfl hl.1 (Nat.le_of_ble_eq_true rfl) dX7_orderEnd_68 ⟨Nat.zero_le _, Nat.zero_le _⟩ ?_
    refine x_if_ge (tgt := 80) hx hb dX7_orderEnd_71 (by decide) (by first | exact hpd | omega) (fun c_71 => ?_) (fun c_71 => ?_)
    · refine lv_iload_n hx hb dX7_orderEnd_80 rfl (lv_at hl 1 rfl) ?_
      refine x_iconst hx hb dX7_orderEnd_81 ?_
      refine x_iadd hx hb dX7_orderEnd_82 ?_
      exact x_iretR hx hb hr hlocks (by unfold ordE; repeat (first | rw [if_pos (by omega)] | rw [if_neg (by omega)])) rfl dX7_orderEnd_83
    · refine lv_iload_n hx hb dX7_orderEnd_74 rfl (lv_at hl 1 rfl) ?_
      refine x_iconst hx hb dX7_orderEnd_75 ?_
      refine x_iadd hx hb dX7_orderEnd_76 ?_
      refine lv_goto (tgt := 83) hx hb dX7_orderEnd_77 (by decide) ?_
      exact x_iretR hx hb hr hlocks (by unfold ordE; repeat (first | rw [if_pos (by omega)] | rw [if_neg (by omega)])) rfl dX7_orderEnd_83
  by_cases k_5_115 : cdS pd ln q = 115
  · refine x_look (off := 121) (tgt := 126) hx hb dX7_orderEnd_5 (by decide) (by rw [k_5_115]; rfl) (by first | exact hpd | omega) (by decide) ?_
    refine lv_aload_n hx hb dX7_orderEnd_126 rfl (lv_at hl 0 rfl) ?_
    refine lv_iload_n hx hb dX7_orderEnd_127 rfl (lv_at hl 1 rfl) ?_
    refine x_iconst hx hb dX7_orderEnd_128 ?_
    refine x_iadd hx hb dX7_orderEnd_129 ?_
    refine x_callVR (As := [.int (zI (q + 1))]) (rest := []) S hK (c_X7_numberEnd l D cs a σ pa sl sv pd kn ln (q + 1) (by first | exact hpd | omega) (by first | exact hpd | omega)) (cwV 1 hts gX7_orderEnd_X7_numberEnd rfl rfl rfl (by decide +kernel) ⟨(Nat.le_of_ble_eq_true rfl), (Nat.le_of_ble_eq_true rfl)⟩) (x_rc hK (mAt_0 hM) rfl) hM rfl hl.1 (Nat.le_of_ble_eq_true rfl) dX7_orderEnd_130 ⟨Nat.zero_le _, Nat.zero_le _⟩ ?_
    exact x_iretR hx hb hr hlocks (by unfold ordE; repeat (first | rw [if_pos (by omega)] | rw [if_neg (by omega)])) rfl dX7_orderEnd_133
  by_cases k_5_116 : cdS pd ln q = 116
  · refine x_look (off := 121) (tgt := 126) hx hb dX7_orderEnd_5 (by decide) (by rw [k_5_116]; rfl) (by first | exact hpd | omega) (by decide) ?_
    refine lv_aload_n hx hb dX7_orderEnd_126 rfl (lv_at hl 0 rfl) ?_
    refine lv_iload_n hx hb dX7_orderEnd_127 rfl (lv_at hl 1 rfl) ?_
    refine x_iconst hx hb dX7_orderEnd_128 ?_
    refine x_iadd hx hb dX7_orderEnd_129 ?_
    refine x_callVR (As := [.int (zI (q + 1))]) (rest := []) S hK (c_X7_numberEnd l D cs a σ pa sl sv pd kn ln (q + 1) (by first | exact hpd | omega) (by first | exact hpd | omega)) (cwV 1 hts gX7_orderEnd_X7_numberEnd rfl rfl rfl (by decide +kernel) ⟨(Nat.le_of_ble_eq_true rfl), (Nat.le_of_ble_eq_true rfl)⟩) (x_rc hK (mAt_0 hM) rfl) hM rfl hl.1 (Nat.le_of_ble_eq_true rfl) dX7_orderEnd_130 ⟨Nat.zero_le _, Nat.zero_le _⟩ ?_
    exact x_iretR hx hb hr hlocks (by unfold ordE; repeat (first | rw [if_pos (by omega)] | rw [if_neg (by omega)])) rfl dX7_orderEnd_133
  by_cases k_5_118 : cdS pd ln q = 118
  · refine x_look (off := 129) (tgt := 134) hx hb dX7_orderEnd_5 (by decide) (by rw [k_5_118]; rfl) (by first | exact hpd | omega) (by decide) ?_
    refine lv_aload_n hx hb dX7_orderEnd_134 rfl (lv_at hl 0 rfl) ?_
    refine lv_iload_n hx hb dX7_orderEnd_135 rfl (lv_at hl 1 rfl) ?_
    refine x_iconst hx hb dX7_orderEnd_136 ?_
    refine x_iadd hx hb dX7_orderEnd_137 ?_
    refine x_callVR (As := [.int (zI (q + 1))]) (rest := []) S hK (c_X7_digit l D cs a σ pa sl sv pd kn ln (q + 1) (by first | exact hpd | omega) (by first | exact hpd | omega)) (cwV 1 hts gX7_orderEnd_X7_digit rfl rfl rfl (by decide +kernel) ⟨(Nat.le_of_ble_eq_true rfl), (Nat.le_of_ble_eq_true rfl)⟩) (x_rc hK (mAt_0 hM) rfl) hM rfl hl.1 (Nat.le_of_ble_eq_true rfl) dX7_orderEnd_138 ⟨Nat.zero_le _, Nat.zero_le _⟩ ?_
    refine x_if_ge (tgt := 151) hx hb dX7_orderEnd_141 (by decide) (by first | exact hpd | omega) (fun c_141 => ?_) (fun c_141 => ?_)
    · refine lv_iload_n hx hb dX7_orderEnd_151 rfl (lv_at hl 1 rfl) ?_
      refine x_iconst hx hb dX7_orderEnd_152 ?_
      refine x_iadd hx hb dX7_orderEnd_153 ?_
      exact x_iretR hx hb hr hlocks (by unfold ordE; repeat (first | rw [if_pos (by omega)] | rw [if_neg (by omega)])) rfl dX7_orderEnd_154
    · refine x_bipush hx hb dX7_orderEnd_144 (by decide +kernel) ?_
      refine lv_iload_n hx hb dX7_orderEnd_146 rfl (lv_at hl 1 rfl) ?_
      refine x_isub hx hb dX7_orderEnd_147 ?_
      refine lv_goto (tgt := 154) hx hb dX7_orderEnd_148 (by decide) ?_
      exact x_iretR hx hb hr hlocks (by unfold ordE; repeat (first | rw [if_pos (by omega)] | rw [if_neg (by omega)])) rfl dX7_orderEnd_154
  refine x_look (off := 150) (tgt := 155) hx hb dX7_orderEnd_5 (by decide) (by simp [Op.lookupswitch.offset_cons, Op.lookupswitch.offset_nil, Ne.symm, k_5_98, k_5_108, k_5_109, k_5_115, k_5_116, k_5_118]) (by first | exact hpd | omega) (by decide) ?_
  refine x_iconst hx hb dX7_orderEnd_155 ?_
  refine lv_iload_n hx hb dX7_orderEnd_156 rfl (lv_at hl 1 rfl) ?_
  refine x_isub hx hb dX7_orderEnd_157 ?_
  exact x_iretR hx hb hr hlocks (by unfold ordE; repeat (first | rw [if_pos (by omega)] | rw [if_neg (by omega)])) rfl dX7_orderEnd_158
set_option maxHeartbeats 4000000 in
set_option maxRecDepth 100000 in
theorem c_X7_fault (l : Launch) (D : va_G) (cs : Nat → ClassId) (a : Int → Nat) (σ : Int → Int) (pa : Int → Int) (sl : Int → Int) (sv : Int → Int) (pd : Int → Int) (kn : Int) (ln : Int) (hpd : pOK pd ln) : kR D cs l yX7_fault wsX7_fault ({ frames := 4, cells := 0, slots := 0, locals := 86 } : Room) [.ref (a 0)] (fun H => mAt D cs a σ pa sl sv pd kn ln H) (some (.int (zI (flt pd ln 80 0)))) := by
  refine Met.ofW (cc := cX7_fault) (maxL := 4) (ret := (some .int)) (by decide) rfl ?_
  intro p e s m args below meth c s₁ B hml hv
  obtain ⟨rfl, hK, hM⟩ := hv
  have hx := B.exec
  have hb := B.bytes
  have hr := B.returns
  have hts := atoms_spec (ws := wsX7_fault) B.pre
  have hown : s.vm.findClass RX7 = some m.cls := findClass_of_methodNamed B.named
  have hlocks := B.notSynchronized
  have S : CallFix p m c cX7_fault 4 s (([.ref (a 0)] : List Value)).toArray wsX7_fault RX7 := ⟨hx, hb, hml, hown, hts⟩
  have hin7 : ∀ w ∈ wsX70, w ∈ wsX7_fault := by decide +kernel
  have hl := lv_entry ([.ref (a 0)]) (n := 4) (Nat.le_of_ble_eq_true rfl)
  rw [lg_entry_eq]
  generalize (lg_sl ([.ref (a 0)]) ++ List.replicate (4 - (lg_sl ([.ref (a 0)])).length) Slot.unset).toArray = ls at hl ⊢
  have hl : lv_has ls 4 [(0, .ref (a 0))] := hl
  have hl0 := hpd.1
  refine x_iconst hx hb dX7_fault_0 ?_
  refine lv_istore_n (lv' := [(1, .int (zI 0)), (0, .ref (a 0))]) hx hb dX7_fault_1 rfl hl (by decide) rfl (fun ls hl => ?_)
  refine x_iconst hx hb dX7_fault_2 ?_
  refine lv_istore_n (lv' := [(2, .int (zI 0)), (1, .int (zI 0)), (0, .ref (a 0))]) hx hb dX7_fault_3 rfl hl (by decide) rfl (fun ls hl => ?_)
  have lp4 : ∀ (n : Nat) (k : Int) (q : Int) (f0 : Nat), f0 < n → (k = 80 - (f0 : Int)) → (f0 ≤ 80) → (flt pd ln f0 q = flt pd ln 80 0) → (0 ≤ q ∧ q ≤ ln) → ∀ (ls : Array Slot), lv_has ls 4 [(2, .int (zI k)), (1, .int (zI q)), (0, .ref (a 0))] → W p l e (headSpec wsX7_fault ({ frames := 4, cells := 0, slots := 0, locals := 86 } : Room)).room s m ([.ref (a 0)] : List Value).toArray below meth c s.heap [] 0 0 (MQ below (kS (some (.int (zI (flt pd ln 80 0))))) ([.ref (a 0)] : List Value).toArray s 0 0 (fun _ => False)) (F0 m 4 ls []) := by
    intro n
    induction n with
    | zero => intro k q f0 hms; exact absurd hms (Nat.not_lt_zero _)
    | succ n ih =>
      intro k q f0 hms i1 i0 i2 i3 ls hl
      have ih4 := ih
      clear ih
      refine lv_iload_n hx hb dX7_fault_4 rfl (lv_at hl 0 rfl) ?_
      refine x_bipush hx hb dX7_fault_5 (by decide +kernel) ?_
      refine x_icmp_ge (tgt := 57) hx hb dX7_fault_7 (by decide) (by first | exact hpd | omega) (by first | exact hpd | omega) (fun c_7 => ?_) (fun c_7 => ?_)
      · refine x_bipush hx hb dX7_fault_57 (by decide +kernel) ?_
        exact x_iretR hx hb hr hlocks (by rw [← i2, show f0 = 0 by omega]; rfl) rfl dX7_fault_59
      · have ho := ordE_rng pd ln q i3.1
        refine lv_aload_n hx hb dX7_fault_10 rfl (lv_at hl 2 rfl) ?_
        refine lv_iload_n hx hb dX7_fault_11 rfl (lv_at hl 1 rfl) ?_
        refine x_callVR (As := [.int (zI q)]) (rest := []) S hK (c_X7_orderEnd l D cs a σ pa sl sv pd kn ln q (by first | exact hpd | omega) (by first | exact hpd | omega)) (cwV 1 hts gX7_fault_X7_orderEnd rfl rfl rfl (by decide +kernel) ⟨(Nat.le_of_ble_eq_true rfl), (Nat.le_of_ble_eq_true rfl)⟩) (x_rc hK (mAt_0 hM) rfl) hM rfl hl.1 (Nat.le_of_ble_eq_true rfl) dX7_fault_12 ⟨Nat.zero_le _, Nat.zero_le _⟩ ?_
        refine lv_istore_n (lv' := [(3, .int (zI (ordE pd ln q))), (2, .int (zI k)), (1, .int (zI q)), (0, .ref (a 0))]) hx hb dX7_fault_15 rfl hl (by decide) rfl (fun ls hl => ?_)
        refine lv_iload_n hx hb dX7_fault_16 rfl (lv_at hl 0 rfl) ?_
        refine x_if_ge (tgt := 24) hx hb dX7_fault_17 (by decide) (by first | exact hpd | omega) (fun c_17 => ?_) (fun c_17 => ?_)
        · refine lv_iload_n hx hb dX7_fault_24 rfl (lv_at hl 0 rfl) ?_
          refine lv_aload_n hx hb dX7_fault_25 rfl (lv_at hl 3 rfl) ?_
          refine m_g_length S hin7 hK hM (hts (.fieldLink RX7 135 "EnergyDiscsModel" "length" "I") (by decide +kernel)) dX7_fault_26 ?_
          refine x_icmp_ne (tgt := 35) hx hb dX7_fault_29 (by decide) (by first | exact hpd | omega) (by first | exact hpd | omega) (fun c_29 => ?_) (fun c_29 => ?_)
          · have hc2 := cdS_rng (p := ordE pd ln q) hpd (by omega)
            refine lv_aload_n hx hb dX7_fault_35 rfl (lv_at hl 3 rfl) ?_
            refine lv_iload_n hx hb dX7_fault_36 rfl (lv_at hl 0 rfl) ?_
            refine x_callVR (As := [.int (zI (ordE pd ln q))]) (rest := []) S hK (c_X7_code l D cs a σ pa sl sv pd kn ln (ordE pd ln q) (by first | exact hpd | omega) (by first | exact hpd | omega)) (cwV 1 hts gX7_fault_X7_code rfl rfl rfl (by decide +kernel) ⟨(Nat.le_of_ble_eq_true rfl), (Nat.le_of_ble_eq_true rfl)⟩) (x_rc hK (mAt_0 hM) rfl) hM rfl hl.1 (Nat.le_of_ble_eq_true rfl) dX7_fault_37 ⟨Nat.zero_le _, Nat.zero_le _⟩ ?_
            refine x_bipush hx hb dX7_fault_40 (by decide +kernel) ?_
            refine x_icmp_eq (tgt := 47) hx hb dX7_fault_42 (by decide) (by first | exact hpd | omega) (by first | exact hpd | omega) (fun c_42 => ?_) (fun c_42 => ?_)
            · refine lv_iload_n hx hb dX7_fault_47 rfl (lv_at hl 0 rfl) ?_
              refine x_iconst hx hb dX7_fault_48 ?_
              refine x_iadd hx hb dX7_fault_49 ?_
              refine lv_istore_n (lv' := [(1, .int (zI ((ordE pd ln q) + 1))), (3, .int (zI (ordE pd ln q))), (2, .int (zI k)), (0, .ref (a 0))]) hx hb dX7_fault_50 rfl hl (by decide) rfl (fun ls hl => ?_)
              refine x_iinc (x := k) (lv' := [(2, .int (zI (k + 1))), (1, .int (zI ((ordE pd ln q) + 1))), (3, .int (zI (ordE pd ln q))), (0, .ref (a 0))]) hx hb dX7_fault_51 hl (k := 2) rfl (by decide) rfl (fun ls hl => ?_)
              refine lv_goto (tgt := 4) hx hb dX7_fault_54 (by decide) ?_
              exact ih4 (k + 1) ((ordE pd ln q) + 1) (f0 - 1) (by omega) (by omega) (by omega) (by obtain ⟨g, hg⟩ : ∃ g, f0 = g + 1 := ⟨f0 - 1, by omega⟩; rw [← i2, hg, flt_go (by omega) (by omega) (by omega)]; rfl) (by have := cdS_lt (pd := pd) (ln := ln) (p := ordE pd ln q) (by omega); omega) ls (lv_sub hl [0, 1, 3] rfl)
            · refine lv_iload_n hx hb dX7_fault_45 rfl (lv_at hl 0 rfl) ?_
              exact x_iretR hx hb hr hlocks (by obtain ⟨g, hg⟩ : ∃ g, f0 = g + 1 := ⟨f0 - 1, by omega⟩; rw [← i2, hg]; unfold flt; rw [if_neg (by omega), if_neg (by omega), if_neg (by omega)]) rfl dX7_fault_46
          · refine x_bipush hx hb dX7_fault_32 (by decide +kernel) ?_
            exact x_iretR hx hb hr hlocks (by obtain ⟨g, hg⟩ : ∃ g, f0 = g + 1 := ⟨f0 - 1, by omega⟩; rw [← i2, hg]; unfold flt; rw [if_neg (by omega), if_pos (by omega)]) rfl dX7_fault_34
        · refine x_iconst hx hb dX7_fault_20 ?_
          refine lv_iload_n hx hb dX7_fault_21 rfl (lv_at hl 0 rfl) ?_
          refine x_isub hx hb dX7_fault_22 ?_
          exact x_iretR hx hb hr hlocks (by obtain ⟨g, hg⟩ : ∃ g, f0 = g + 1 := ⟨f0 - 1, by omega⟩; rw [← i2, hg]; unfold flt; rw [if_pos (by omega)]) rfl dX7_fault_23
  exact lp4 ((80 : Nat) + 1) 0 0 80 (Nat.lt_succ_self _) (by omega) (by omega) (by rfl) (by omega) ls (lv_sub hl [0, 1, 2] rfl)
set_option maxHeartbeats 4000000 in
set_option maxRecDepth 100000 in
theorem c_X7_whyNot (l : Launch) (D : va_G) (cs : Nat → ClassId) (a : Int → Nat) (σ : Int → Int) (pa : Int → Int) (sl : Int → Int) (sv : Int → Int) (pd : Int → Int) (kn : Int) (ln : Int) (q : Int) (N : Int) (hFO : fOK N σ) (hpd : pOK pd ln) (hq : 0 ≤ q ∧ q < 100) : kR D cs l yX7_whyNot wsX7_whyNot ({ frames := 4, cells := 0, slots := 0, locals := 88 } : Room) [.ref (a 0), .int (zI q)] (fun H => mAt D cs a σ pa sl sv pd kn ln H) (some (.int (zI (whN σ pd ln q)))) := by
  refine Met.ofW (cc := cX7_whyNot) (maxL := 3) (ret := (some .int)) (by decide) rfl ?_
  intro p e s m args below meth c s₁ B hml hv
  obtain ⟨rfl, hK, hM⟩ := hv
  have hx := B.exec
  have hb := B.bytes
  have hr := B.returns
  have hts := atoms_spec (ws := wsX7_whyNot) B.pre
  have hown : s.vm.findClass RX7 = some m.cls := findClass_of_methodNamed B.named
  have hlocks := B.notSynchronized
  have S : CallFix p m c cX7_whyNot 3 s (([.ref (a 0), .int (zI q)] : List Value)).toArray wsX7_whyNot RX7 := ⟨hx, hb, hml, hown, hts⟩
  have hl := lv_entry ([.ref (a 0), .int (zI q)]) (n := 3) (Nat.le_of_ble_eq_true rfl)
  rw [lg_entry_eq]
  generalize (lg_sl ([.ref (a 0), .int (zI q)]) ++ List.replicate (3 - (lg_sl ([.ref (a 0), .int (zI q)])).length) Slot.unset).toArray = ls at hl ⊢
  have hl : lv_has ls 3 [(0, .ref (a 0)), (1, .int (zI q))] := hl
  have hc0 := cdS_rng hpd hq.1
  have hd1 := dgS_rng pd ln (q + 1)
  have ha3 := numA_rng pd ln (q + 3) (by omega)
  have ha1 := numA_rng pd ln (q + 1) (by omega)
  have h7 := hFO.1.1.1
  have h8 := hFO.1.1.2.1
  have h6 := fOK_6 hFO
  refine lv_aload_n hx hb dX7_whyNot_0 rfl (lv_at hl 0 rfl) ?_
  refine lv_iload_n hx hb dX7_whyNot_1 rfl (lv_at hl 1 rfl) ?_
  refine x_iconst hx hb dX7_whyNot_2 ?_
  refine x_iadd hx hb dX7_whyNot_3 ?_
  refine x_callVR (As := [.int (zI (q + 1))]) (rest := []) S hK (c_X7_digit l D cs a σ pa sl sv pd kn ln (q + 1) (by first | exact hpd | omega) (by first | exact hpd | omega)) (cwV 1 hts gX7_whyNot_X7_digit rfl rfl rfl (by decide +kernel) ⟨(Nat.le_of_ble_eq_true rfl), (Nat.le_of_ble_eq_true rfl)⟩) (x_rc hK (mAt_0 hM) rfl) hM rfl hl.1 (Nat.le_of_ble_eq_true rfl) dX7_whyNot_4 ⟨Nat.zero_le _, Nat.zero_le _⟩ ?_
  refine lv_istore_n (lv' := [(2, .int (zI (dgS pd ln (q + 1)))), (0, .ref (a 0)), (1, .int (zI q))]) hx hb dX7_whyNot_7 rfl hl (by decide) rfl (fun ls hl => ?_)
  refine lv_aload_n hx hb dX7_whyNot_8 rfl (lv_at hl 1 rfl) ?_
  refine lv_iload_n hx hb dX7_whyNot_9 rfl (lv_at hl 2 rfl) ?_
  refine x_callVR (As := [.int (zI q)]) (rest := []) S hK (c_X7_code l D cs a σ pa sl sv pd kn ln q (by first | exact hpd | omega) (by first | exact hpd | omega)) (cwV 1 hts gX7_whyNot_X7_code rfl rfl rfl (by decide +kernel) ⟨(Nat.le_of_ble_eq_true rfl), (Nat.le_of_ble_eq_true rfl)⟩) (x_rc hK (mAt_0 hM) rfl) hM rfl hl.1 (Nat.le_of_ble_eq_true rfl) dX7_whyNot_10 ⟨Nat.zero_le _, Nat.zero_le _⟩ ?_
  by_cases k_13_98 : cdS pd ln q = 98
  · refine x_look (off := 110) (tgt := 123) hx hb dX7_whyNot_13 (by decide) (by rw [k_13_98]; rfl) (by first | exact hpd | omega) (by decide) ?_
    refine lv_aload_n hx hb dX7_whyNot_123 rfl (lv_at hl 1 rfl) ?_
    refine lv_iload_n hx hb dX7_whyNot_124 rfl (lv_at hl 0 rfl) ?_
    refine x_callVR (As := [.int (zI (dgS pd ln (q + 1)))]) (rest := []) S hK (c_X7_whyNotTamper l D cs a σ pa sl sv pd kn ln (dgS pd ln (q + 1)) (by first | exact hpd | omega) (by first | exact hpd | omega) (by exact fun h1 h2 => (dOK_0 (hFO.1.2.2 _ h1 h2)).2.2.2)) (cwV 1 hts gX7_whyNot_X7_whyNotTamper rfl rfl rfl (by decide +kernel) ⟨(Nat.le_of_ble_eq_true rfl), (Nat.le_of_ble_eq_true rfl)⟩) (x_rc hK (mAt_0 hM) rfl) hM rfl hl.1 (Nat.le_of_ble_eq_true rfl) dX7_whyNot_125 ⟨Nat.zero_le _, Nat.zero_le _⟩ ?_
    exact x_iretR hx hb hr hlocks (by unfold whN; repeat (first | rw [if_pos (by omega)] | rw [if_neg (by omega)])) rfl dX7_whyNot_128
  by_cases k_13_108 : cdS pd ln q = 108
  · refine x_look (off := 65) (tgt := 78) hx hb dX7_whyNot_13 (by decide) (by rw [k_13_108]; rfl) (by first | exact hpd | omega) (by decide) ?_
    refine lv_aload_n hx hb dX7_whyNot_78 rfl (lv_at hl 1 rfl) ?_
    refine lv_iload_n hx hb dX7_whyNot_79 rfl (lv_at hl 0 rfl) ?_
    refine lv_aload_n hx hb dX7_whyNot_80 rfl (lv_at hl 1 rfl) ?_
    refine lv_iload_n hx hb dX7_whyNot_81 rfl (lv_at hl 2 rfl) ?_
    refine x_iconst hx hb dX7_whyNot_82 ?_
    refine x_iadd hx hb dX7_whyNot_83 ?_
    refine x_callVR (As := [.int (zI (q + 3))]) (rest := [.int (zI (dgS pd ln (q + 1))), .ref (a 0)]) S hK (c_X7_numberAt l D cs a σ pa sl sv pd kn ln (q + 3) (by first | exact hpd | omega) (by first | exact hpd | omega)) (cwV 1 hts gX7_whyNot_X7_numberAt rfl rfl rfl (by decide +kernel) ⟨(Nat.le_of_ble_eq_true rfl), (Nat.le_of_ble_eq_true rfl)⟩) (x_rc hK (mAt_0 hM) rfl) hM rfl hl.1 (Nat.le_of_ble_eq_true rfl) dX7_whyNot_84 ⟨Nat.zero_le _, Nat.zero_le _⟩ ?_
    refine x_callVR (As := [.int (zI (dgS pd ln (q + 1))), .int (zI (numA pd ln (q + 3)))]) (rest := []) S hK (c_X7_whyNotLoad l D cs a σ pa sl sv pd kn ln (dgS pd ln (q + 1)) (numA pd ln (q + 3)) (by first | exact hpd | omega) (by first | exact hpd | omega) (by first | exact hpd | omega) (by first | exact hpd | omega)) (cwV 2 hts gX7_whyNot_X7_whyNotLoad rfl rfl rfl (by decide +kernel) ⟨(Nat.le_of_ble_eq_true rfl), (Nat.le_of_ble_eq_true rfl)⟩) (x_rc hK (mAt_0 hM) rfl) hM rfl hl.1 (Nat.le_of_ble_eq_true rfl) dX7_whyNot_87 ⟨Nat.zero_le _, Nat.zero_le _⟩ ?_
    exact x_iretR hx hb hr hlocks (by unfold whN; repeat (first | rw [if_pos (by omega)] | rw [if_neg (by omega)])) rfl dX7_whyNot_90
  by_cases k_13_109 : cdS pd ln q = 109
  · refine x_look (off := 51) (tgt := 64) hx hb dX7_whyNot_13 (by decide) (by rw [k_13_109]; rfl) (by first | exact hpd | omega) (by decide) ?_
    refine lv_aload_n hx hb dX7_whyNot_64 rfl (lv_at hl 1 rfl) ?_
    refine lv_iload_n hx hb dX7_whyNot_65 rfl (lv_at hl 0 rfl) ?_
    refine x_if_ge (tgt := 73) hx hb dX7_whyNot_66 (by decide) (by first | exact hpd | omega) (fun c_66 => ?_) (fun c_66 => ?_)
    · refine lv_iload_n hx hb dX7_whyNot_73 rfl (lv_at hl 0 rfl) ?_
      refine x_callVR (As := [.int (zI (dgS pd ln (q + 1)))]) (rest := []) S hK (c_X7_whyNotMeter l D cs a σ pa sl sv pd kn ln (dgS pd ln (q + 1)) (by first | exact hpd | omega) (by first | exact hpd | omega)) (cwV 1 hts gX7_whyNot_X7_whyNotMeter rfl rfl rfl (by decide +kernel) ⟨(Nat.le_of_ble_eq_true rfl), (Nat.le_of_ble_eq_true rfl)⟩) (x_rc hK (mAt_0 hM) rfl) hM rfl hl.1 (Nat.le_of_ble_eq_true rfl) dX7_whyNot_74 ⟨Nat.zero_le _, Nat.zero_le _⟩ ?_
      exact x_iretR hx hb hr hlocks (by unfold whN; repeat (first | rw [if_pos (by omega)] | rw [if_neg (by omega)])) rfl dX7_whyNot_77
    · refine x_iconst hx hb dX7_whyNot_69 ?_
      refine lv_goto (tgt := 74) hx hb dX7_whyNot_70 (by decide) ?_
      refine x_callVR (As := [.int (zI 0)]) (rest := []) S hK (c_X7_whyNotMeter l D cs a σ pa sl sv pd kn ln 0 (by first | exact hpd | omega) (by first | exact hpd | omega)) (cwV 1 hts gX7_whyNot_X7_whyNotMeter rfl rfl rfl (by decide +kernel) ⟨(Nat.le_of_ble_eq_true rfl), (Nat.le_of_ble_eq_true rfl)⟩) (x_rc hK (mAt_0 hM) rfl) hM rfl hl.1 (Nat.le_of_ble_eq_true rfl) dX7_whyNot_74 ⟨Nat.zero_le _, Nat.zero_le _⟩ ?_
      exact x_iretR hx hb hr hlocks (by unfold whN; repeat (first | rw [if_pos (by omega)] | rw [if_neg (by omega)])) rfl dX7_whyNot_77
  by_cases k_13_115 : cdS pd ln q = 115
  · refine x_look (off := 78) (tgt := 91) hx hb dX7_whyNot_13 (by decide) (by rw [k_13_115]; rfl) (by first | exact hpd | omega) (by decide) ?_
    refine lv_aload_n hx hb dX7_whyNot_91 rfl (lv_at hl 1 rfl) ?_
    refine lv_aload_n hx hb dX7_whyNot_92 rfl (lv_at hl 1 rfl) ?_
    refine lv_iload_n hx hb dX7_whyNot_93 rfl (lv_at hl 2 rfl) ?_
    refine x_iconst hx hb dX7_whyNot_94 ?_
    refine x_iadd hx hb dX7_whyNot_95 ?_
    refine x_callVR (As := [.int (zI (q + 1))]) (rest := [.ref (a 0)]) S hK (c_X7_numberAt l D cs a σ pa sl sv pd kn ln (q + 1) (by first | exact hpd | omega) (by first | exact hpd | omega)) (cwV 1 hts gX7_whyNot_X7_numberAt rfl rfl rfl (by decide +kernel) ⟨(Nat.le_of_ble_eq_true rfl), (Nat.le_of_ble_eq_true rfl)⟩) (x_rc hK (mAt_0 hM) rfl) hM rfl hl.1 (Nat.le_of_ble_eq_true rfl) dX7_whyNot_96 ⟨Nat.zero_le _, Nat.zero_le _⟩ ?_
    refine x_callVR (As := [.int (zI (numA pd ln (q + 1)))]) (rest := []) S hK (c_X7_isLoad l D cs a σ pa sl sv pd kn ln (numA pd ln (q + 1)) (by first | exact hpd | omega) (by first | exact hpd | omega)) (cwV 1 hts gX7_whyNot_X7_isLoad rfl rfl rfl (by decide +kernel) ⟨(Nat.le_of_ble_eq_true rfl), (Nat.le_of_ble_eq_true rfl)⟩) (x_rc hK (mAt_0 hM) rfl) hM rfl hl.1 (Nat.le_of_ble_eq_true rfl) dX7_whyNot_99 ⟨Nat.zero_le _, Nat.zero_le _⟩ ?_
    refine x_ifb_eq (tgt := 109) hx hb dX7_whyNot_102 (by decide)  (fun c_102 => ?_) (fun c_102 => ?_)
    · refine x_iconst hx hb dX7_whyNot_109 ?_
      exact x_iretR hx hb hr hlocks (by unfold whN; repeat (first | rw [if_pos (by omega)] | rw [if_neg (by omega)])) rfl dX7_whyNot_110
    · refine x_iconst hx hb dX7_whyNot_105 ?_
      refine lv_goto (tgt := 110) hx hb dX7_whyNot_106 (by decide) ?_
      exact x_iretR hx hb hr hlocks (by unfold whN; repeat (first | rw [if_pos (by omega)] | rw [if_neg (by omega)])) rfl dX7_whyNot_110
  by_cases k_13_116 : cdS pd ln q = 116
  · refine x_look (off := 98) (tgt := 111) hx hb dX7_whyNot_13 (by decide) (by rw [k_13_116]; rfl) (by first | exact hpd | omega) (by decide) ?_
    refine lv_aload_n hx hb dX7_whyNot_111 rfl (lv_at hl 1 rfl) ?_
    refine lv_aload_n hx hb dX7_whyNot_112 rfl (lv_at hl 1 rfl) ?_
    refine lv_iload_n hx hb dX7_whyNot_113 rfl (lv_at hl 2 rfl) ?_
    refine x_iconst hx hb dX7_whyNot_114 ?_
    refine x_iadd hx hb dX7_whyNot_115 ?_
    refine x_callVR (As := [.int (zI (q + 1))]) (rest := [.ref (a 0)]) S hK (c_X7_numberAt l D cs a σ pa sl sv pd kn ln (q + 1) (by first | exact hpd | omega) (by first | exact hpd | omega)) (cwV 1 hts gX7_whyNot_X7_numberAt rfl rfl rfl (by decide +kernel) ⟨(Nat.le_of_ble_eq_true rfl), (Nat.le_of_ble_eq_true rfl)⟩) (x_rc hK (mAt_0 hM) rfl) hM rfl hl.1 (Nat.le_of_ble_eq_true rfl) dX7_whyNot_116 ⟨Nat.zero_le _, Nat.zero_le _⟩ ?_
    refine x_callVR (As := [.int (zI (numA pd ln (q + 1)))]) (rest := []) S hK (c_X7_whyNotPass l D cs a σ pa sl sv pd kn ln (numA pd ln (q + 1)) (by first | exact hpd | omega) (by first | exact hpd | omega)) (cwV 1 hts gX7_whyNot_X7_whyNotPass rfl rfl rfl (by decide +kernel) ⟨(Nat.le_of_ble_eq_true rfl), (Nat.le_of_ble_eq_true rfl)⟩) (x_rc hK (mAt_0 hM) rfl) hM rfl hl.1 (Nat.le_of_ble_eq_true rfl) dX7_whyNot_119 ⟨Nat.zero_le _, Nat.zero_le _⟩ ?_
    exact x_iretR hx hb hr hlocks (by unfold whN; repeat (first | rw [if_pos (by omega)] | rw [if_neg (by omega)])) rfl dX7_whyNot_122
  refine x_look (off := 116) (tgt := 129) hx hb dX7_whyNot_13 (by decide) (by simp [Op.lookupswitch.offset_cons, Op.lookupswitch.offset_nil, Ne.symm, k_13_98, k_13_108, k_13_109, k_13_115, k_13_116]) (by first | exact hpd | omega) (by decide) ?_
  refine lv_aload_n hx hb dX7_whyNot_129 rfl (lv_at hl 1 rfl) ?_
  refine lv_iload_n hx hb dX7_whyNot_130 rfl (lv_at hl 0 rfl) ?_
  refine x_callVR (As := [.int (zI (dgS pd ln (q + 1)))]) (rest := []) S hK (c_X7_isMeter l D cs a σ pa sl sv pd kn ln (dgS pd ln (q + 1)) (by first | exact hpd | omega) (by first | exact hpd | omega)) (cwV 1 hts gX7_whyNot_X7_isMeter rfl rfl rfl (by decide +kernel) ⟨(Nat.le_of_ble_eq_true rfl), (Nat.le_of_ble_eq_true rfl)⟩) (x_rc hK (mAt_0 hM) rfl) hM rfl hl.1 (Nat.le_of_ble_eq_true rfl) dX7_whyNot_131 ⟨Nat.zero_le _, Nat.zero_le _⟩ ?_
  refine x_ifb_eq (tgt := 141) hx hb dX7_whyNot_134 (by decide)  (fun c_134 => ?_) (fun c_134 => ?_)
  · refine x_iconst hx hb dX7_whyNot_141 ?_
    exact x_iretR hx hb hr hlocks (by unfold whN; repeat (first | rw [if_pos (by omega)] | rw [if_neg (by omega)])) rfl dX7_whyNot_142
  · refine x_iconst hx hb dX7_whyNot_137 ?_
    refine lv_goto (tgt := 142) hx hb dX7_whyNot_138 (by decide) ?_
    exact x_iretR hx hb hr hlocks (by unfold whN; repeat (first | rw [if_pos (by omega)] | rw [if_neg (by omega)])) rfl dX7_whyNot_142
set_option maxHeartbeats 4000000 in
set_option maxRecDepth 100000 in
theorem c_X7_does (l : Launch) (D : va_G) (cs : Nat → ClassId) (a : Int → Nat) (σ : Int → Int) (pa : Int → Int) (sl : Int → Int) (sv : Int → Int) (pd : Int → Int) (kn : Int) (ln : Int) (q : Int) (N : Int) (hFO : fOK N σ) (hpd : pOK pd ln) (hq : 0 ≤ q ∧ q < 100) (hw : whN σ pd ln q = 0) (hI : mI a) : kM D cs l yX7_does wsX7_does ({ frames := 6, cells := 0, slots := 0, locals := 143 } : Room) [.ref (a 0), .int (zI q)] (fun H => mAt D cs a σ pa sl sv pd kn ln H) (some (.int (zI (dosR σ pd ln q)))) (fun H => mAt D cs a (dosS σ pd ln q) pa sl sv pd kn ln H) (mC a) := by
  refine Met.ofW (cc := cX7_does) (maxL := 3) (ret := (some .int)) (by decide) rfl ?_
  intro p e s m args below meth c s₁ B hml hv
  obtain ⟨rfl, hK, hM⟩ := hv
  have hx := B.exec
  have hb := B.bytes
  have hr := B.returns
  have hts := atoms_spec (ws := wsX7_does) B.pre
  have hown : s.vm.findClass RX7 = some m.cls := findClass_of_methodNamed B.named
  have hlocks := B.notSynchronized
  have S : CallFix p m c cX7_does 3 s (([.ref (a 0), .int (zI q)] : List Value)).toArray wsX7_does RX7 := ⟨hx, hb, hml, hown, hts⟩
  have hin7 : ∀ w ∈ wsX70, w ∈ wsX7_does := by decide +kernel
  have hS : va_S (mC a) s.heap s.heap [] := va_S.rf
  have hl := lv_entry ([.ref (a 0), .int (zI q)]) (n := 3) (Nat.le_of_ble_eq_true rfl)
  rw [lg_entry_eq]
  generalize (lg_sl ([.ref (a 0), .int (zI q)]) ++ List.replicate (3 - (lg_sl ([.ref (a 0), .int (zI q)])).length) Slot.unset).toArray = ls at hl ⊢
  have hl : lv_has ls 3 [(0, .ref (a 0)), (1, .int (zI q))] := hl
  have hc0 := cdS_rng hpd hq.1
  have hd1 := dgS_rng pd ln (q + 1)
  have ha3 := numA_rng pd ln (q + 3) (by omega)
  have ha1 := numA_rng pd ln (q + 1) (by omega)
  have h7 := hFO.1.1.1
  have h8 := hFO.1.1.2.1
  have h6 := fOK_6 hFO
  unfold whN at hw
  refine lv_aload_n hx hb dX7_does_0 rfl (lv_at hl 0 rfl) ?_
  refine lv_iload_n hx hb dX7_does_1 rfl (lv_at hl 1 rfl) ?_
  refine x_iconst hx hb dX7_does_2 ?_
  refine x_iadd hx hb dX7_does_3 ?_
  refine x_callVR (As := [.int (zI (q + 1))]) (rest := []) S hK (c_X7_digit l D cs a σ pa sl sv pd kn ln (q + 1) (by first | exact hpd | exact hFO.1 | omega) (by first | exact hpd | exact hFO.1 | omega)) (cwV 1 hts gX7_does_X7_digit rfl rfl rfl (by decide +kernel) ⟨(Nat.le_of_ble_eq_true rfl), (Nat.le_of_ble_eq_true rfl)⟩) (x_rc hK (mAt_0 hM) rfl) hM rfl hl.1 (Nat.le_of_ble_eq_true rfl) dX7_does_4 ⟨Nat.zero_le _, Nat.zero_le _⟩ ?_
  refine lv_istore_n (lv' := [(2, .int (zI (dgS pd ln (q + 1)))), (0, .ref (a 0)), (1, .int (zI q))]) hx hb dX7_does_7 rfl hl (by decide) rfl (fun ls hl => ?_)
  refine lv_aload_n hx hb dX7_does_8 rfl (lv_at hl 1 rfl) ?_
  refine lv_iload_n hx hb dX7_does_9 rfl (lv_at hl 2 rfl) ?_
  refine x_callVR (As := [.int (zI q)]) (rest := []) S hK (c_X7_code l D cs a σ pa sl sv pd kn ln q (by first | exact hpd | exact hFO.1 | omega) (by first | exact hpd | exact hFO.1 | omega)) (cwV 1 hts gX7_does_X7_code rfl rfl rfl (by decide +kernel) ⟨(Nat.le_of_ble_eq_true rfl), (Nat.le_of_ble_eq_true rfl)⟩) (x_rc hK (mAt_0 hM) rfl) hM rfl hl.1 (Nat.le_of_ble_eq_true rfl) dX7_does_10 ⟨Nat.zero_le _, Nat.zero_le _⟩ ?_
  by_cases k_13_98 : cdS pd ln q = 98
  · refine x_look (off := 103) (tgt := 116) hx hb dX7_does_13 (by decide) (by rw [k_13_98]; rfl) (by first | exact hpd | exact hFO.1 | omega) (by decide) ?_
    rw [if_neg (by omega), if_neg (by omega), if_neg (by omega), if_neg (by omega), if_pos k_13_98] at hw
    have hw2 := wnT_0 hw
    refine lv_aload_n hx hb dX7_does_116 rfl (lv_at hl 1 rfl) ?_
    refine m_g_s S hin7 hK hM (hts (.fieldLink RX7 7 "EnergyDiscsModel" "s" "[J") (by decide +kernel)) dX7_does_117 ?_
    refine x_iconst hx hb dX7_does_120 ?_
    refine lv_iload_n hx hb dX7_does_121 rfl (lv_at hl 0 rfl) ?_
    refine x_callSR (As := [.int (zI 0), .int (zI (dgS pd ln (q + 1)))]) (rest := [.ref (a 1)]) S hK (c_X7_at l D cs 0 (dgS pd ln (q + 1)) ) (va_cwS 2 hts gX7_does_X7_at rfl rfl rfl (by decide +kernel) ⟨(Nat.le_of_ble_eq_true rfl), (Nat.le_of_ble_eq_true rfl)⟩) trivial rfl hl.1 (Nat.le_of_ble_eq_true rfl) dX7_does_122 ⟨Nat.zero_le _, Nat.zero_le _⟩ ?_
    refine x_bipush hx hb dX7_does_125 (by decide +kernel) ?_
    refine x_iadd hx hb dX7_does_127 ?_
    refine x_lconst (v := 1) hx hb dX7_does_128 rfl ?_
    refine m_s_s S hK hM hI hS (by first | exact hpd | exact hFO.1 | omega) dX7_does_129 (fun H locs hM hS => ?_)
    have hM : mAt D cs a (tpF σ (dgS pd ln (q + 1))) pa sl sv pd kn ln H := hM
    refine lv_iload_n hx hb dX7_does_130 rfl (lv_at hl 0 rfl) ?_
    exact x_iretM hx hb hr hlocks (by unfold dosR; repeat (first | rw [if_pos (by omega)] | rw [if_neg (by omega)])) (mAt_cong hM (by unfold dosS; repeat (first | rw [if_pos (by omega)] | rw [if_neg (by omega)])) rfl rfl rfl rfl rfl rfl) hS dX7_does_131
  by_cases k_13_108 : cdS pd ln q = 108
  · refine x_look (off := 65) (tgt := 78) hx hb dX7_does_13 (by decide) (by rw [k_13_108]; rfl) (by first | exact hpd | exact hFO.1 | omega) (by decide) ?_
    rw [if_neg (by omega), if_pos k_13_108] at hw
    have hw2 := wnL_0 hw h8
    refine lv_aload_n hx hb dX7_does_78 rfl (lv_at hl 1 rfl) ?_
    refine lv_iload_n hx hb dX7_does_79 rfl (lv_at hl 0 rfl) ?_
    refine lv_aload_n hx hb dX7_does_80 rfl (lv_at hl 1 rfl) ?_
    refine lv_iload_n hx hb dX7_does_81 rfl (lv_at hl 2 rfl) ?_
    refine x_iconst hx hb dX7_does_82 ?_
    refine x_iadd hx hb dX7_does_83 ?_
    refine x_callVR (As := [.int (zI (q + 3))]) (rest := [.int (zI (dgS pd ln (q + 1))), .ref (a 0)]) S hK (c_X7_numberAt l D cs a σ pa sl sv pd kn ln (q + 3) (by first | exact hpd | exact hFO.1 | omega) (by first | exact hpd | exact hFO.1 | omega)) (cwV 1 hts gX7_does_X7_numberAt rfl rfl rfl (by decide +kernel) ⟨(Nat.le_of_ble_eq_true rfl), (Nat.le_of_ble_eq_true rfl)⟩) (x_rc hK (mAt_0 hM) rfl) hM rfl hl.1 (Nat.le_of_ble_eq_true rfl) dX7_does_84 ⟨Nat.zero_le _, Nat.zero_le _⟩ ?_
    refine x_callVM (As := [.int (zI (dgS pd ln (q + 1))), .int (zI (numA pd ln (q + 3)))]) (rest := []) S hK (c_X7_loads l D cs a σ pa sl sv pd kn ln (dgS pd ln (q + 1)) (numA pd ln (q + 3)) (by first | exact hpd | exact hFO.1 | omega) (by first | exact hpd | exact hFO.1 | omega) (by first | exact hpd | exact hFO.1 | omega) (by first | exact hpd | exact hFO.1 | omega)) (cwV 2 hts gX7_does_X7_loads rfl rfl rfl (by decide +kernel) ⟨(Nat.le_of_ble_eq_true rfl), (Nat.le_of_ble_eq_true rfl)⟩) (x_rc hK (mAt_0 hM) rfl) hM rfl hl.1 (Nat.le_of_ble_eq_true rfl) dX7_does_87 ⟨Nat.zero_le _, Nat.zero_le _⟩ hS (fun q hq => hq) (fun H locs hB hF hS => ?_)
    have hM : mAt D cs a (ldF σ (dgS pd ln (q + 1)) (numA pd ln (q + 3))) pa sl sv pd kn ln H := hB
    exact x_iretM hx hb hr hlocks (by unfold dosR; repeat (first | rw [if_pos (by omega)] | rw [if_neg (by omega)])) (mAt_cong hM (by unfold dosS; repeat (first | rw [if_pos (by omega)] | rw [if_neg (by omega)])) rfl rfl rfl rfl rfl rfl) hS dX7_does_90
  by_cases k_13_109 : cdS pd ln q = 109
  · refine x_look (off := 51) (tgt := 64) hx hb dX7_does_13 (by decide) (by rw [k_13_109]; rfl) (by first | exact hpd | exact hFO.1 | omega) (by decide) ?_
    rw [if_pos k_13_109] at hw
    have hw2 := wnM_0 hw h7
    rw [show (if dgS pd ln (q + 1) < 0 then 0 else dgS pd ln (q + 1)) = (if dgS pd ln (q + 1) < 0 then 0 else dgS pd ln (q + 1)) from rfl] at hw2
    refine lv_aload_n hx hb dX7_does_64 rfl (lv_at hl 1 rfl) ?_
    refine lv_iload_n hx hb dX7_does_65 rfl (lv_at hl 0 rfl) ?_
    refine x_if_ge (tgt := 73) hx hb dX7_does_66 (by decide) (by first | exact hpd | exact hFO.1 | omega) (fun c_66 => ?_) (fun c_66 => ?_)
    · refine lv_iload_n hx hb dX7_does_73 rfl (lv_at hl 0 rfl) ?_
      refine x_callVM (As := [.int (zI (dgS pd ln (q + 1)))]) (rest := []) S hK (c_X7_comes l D cs a σ pa sl sv pd kn ln (dgS pd ln (q + 1)) (by first | exact hpd | exact hFO.1 | omega) (by first | exact hpd | exact hFO.1 | omega) (by first | exact hpd | exact hFO.1 | omega)) (cwV 1 hts gX7_does_X7_comes rfl rfl rfl (by decide +kernel) ⟨(Nat.le_of_ble_eq_true rfl), (Nat.le_of_ble_eq_true rfl)⟩) (x_rc hK (mAt_0 hM) rfl) hM rfl hl.1 (Nat.le_of_ble_eq_true rfl) dX7_does_74 ⟨Nat.zero_le _, Nat.zero_le _⟩ hS (fun q hq => hq) (fun H locs hB hF hS => ?_)
      have hM : mAt D cs a (comF σ (dgS pd ln (q + 1))) pa sl sv pd kn ln H := hB
      exact x_iretM hx hb hr hlocks (by unfold dosR; repeat (first | rw [if_pos (by omega)] | rw [if_neg (by omega)])) (mAt_cong hM (by unfold dosS; repeat (first | rw [if_pos (by omega)] | rw [if_neg (by omega)])) rfl rfl rfl rfl rfl rfl) hS dX7_does_77
    · refine x_iconst hx hb dX7_does_69 ?_
      refine lv_goto (tgt := 74) hx hb dX7_does_70 (by decide) ?_
      refine x_callVM (As := [.int (zI 0)]) (rest := []) S hK (c_X7_comes l D cs a σ pa sl sv pd kn ln 0 (by first | exact hpd | exact hFO.1 | omega) (by first | exact hpd | exact hFO.1 | omega) (by first | exact hpd | exact hFO.1 | omega)) (cwV 1 hts gX7_does_X7_comes rfl rfl rfl (by decide +kernel) ⟨(Nat.le_of_ble_eq_true rfl), (Nat.le_of_ble_eq_true rfl)⟩) (x_rc hK (mAt_0 hM) rfl) hM rfl hl.1 (Nat.le_of_ble_eq_true rfl) dX7_does_74 ⟨Nat.zero_le _, Nat.zero_le _⟩ hS (fun q hq => hq) (fun H locs hB hF hS => ?_)
      have hM : mAt D cs a (comF σ 0) pa sl sv pd kn ln H := hB
      exact x_iretM hx hb hr hlocks (by unfold dosR; repeat (first | rw [if_pos (by omega)] | rw [if_neg (by omega)])) (mAt_cong hM (by unfold dosS; repeat (first | rw [if_pos (by omega)] | rw [if_neg (by omega)])) rfl rfl rfl rfl rfl rfl) hS dX7_does_77
  by_cases k_13_115 : cdS pd ln q = 115
  · refine x_look (off := 78) (tgt := 91) hx hb dX7_does_13 (by decide) (by rw [k_13_115]; rfl) (by first | exact hpd | exact hFO.1 | omega) (by decide) ?_
    rw [if_neg (by omega), if_neg (by omega), if_pos k_13_115] at hw
    have hw2 : 0 ≤ numA pd ln (q + 1) ∧ numA pd ln (q + 1) < σ 8 := by split at hw <;> first | assumption | omega
    refine lv_aload_n hx hb dX7_does_91 rfl (lv_at hl 1 rfl) ?_
    refine lv_aload_n hx hb dX7_does_92 rfl (lv_at hl 1 rfl) ?_
    refine lv_iload_n hx hb dX7_does_93 rfl (lv_at hl 2 rfl) ?_
    refine x_iconst hx hb dX7_does_94 ?_
    refine x_iadd hx hb dX7_does_95 ?_
    refine x_callVR (As := [.int (zI (q + 1))]) (rest := [.ref (a 0)]) S hK (c_X7_numberAt l D cs a σ pa sl sv pd kn ln (q + 1) (by first | exact hpd | exact hFO.1 | omega) (by first | exact hpd | exact hFO.1 | omega)) (cwV 1 hts gX7_does_X7_numberAt rfl rfl rfl (by decide +kernel) ⟨(Nat.le_of_ble_eq_true rfl), (Nat.le_of_ble_eq_true rfl)⟩) (x_rc hK (mAt_0 hM) rfl) hM rfl hl.1 (Nat.le_of_ble_eq_true rfl) dX7_does_96 ⟨Nat.zero_le _, Nat.zero_le _⟩ ?_
    refine x_callVM (As := [.int (zI (numA pd ln (q + 1)))]) (rest := []) S hK (c_X7_turns l D cs a σ pa sl sv pd kn ln (numA pd ln (q + 1)) (by first | exact hpd | exact hFO.1 | omega) (by first | exact hpd | exact hFO.1 | omega)) (cwV 1 hts gX7_does_X7_turns rfl rfl rfl (by decide +kernel) ⟨(Nat.le_of_ble_eq_true rfl), (Nat.le_of_ble_eq_true rfl)⟩) (x_rc hK (mAt_0 hM) rfl) hM rfl hl.1 (Nat.le_of_ble_eq_true rfl) dX7_does_99 ⟨Nat.zero_le _, Nat.zero_le _⟩ hS (fun q hq => hq) (fun H locs hB hF hS => ?_)
    have hM : mAt D cs a (tnF σ (numA pd ln (q + 1))) pa sl sv pd kn ln H := hB
    exact x_iretM hx hb hr hlocks (by unfold dosR; repeat (first | rw [if_pos (by omega)] | rw [if_neg (by omega)])) (mAt_cong hM (by unfold dosS; repeat (first | rw [if_pos (by omega)] | rw [if_neg (by omega)])) rfl rfl rfl rfl rfl rfl) hS dX7_does_102
  by_cases k_13_116 : cdS pd ln q = 116
  · refine x_look (off := 90) (tgt := 103) hx hb dX7_does_13 (by decide) (by rw [k_13_116]; rfl) (by first | exact hpd | exact hFO.1 | omega) (by decide) ?_
    rw [if_neg (by omega), if_neg (by omega), if_neg (by omega), if_pos k_13_116] at hw
    have hw2 := wnP_0 hw
    refine lv_aload_n hx hb dX7_does_103 rfl (lv_at hl 1 rfl) ?_
    refine x_iconst hx hb dX7_does_104 ?_
    refine lv_aload_n hx hb dX7_does_105 rfl (lv_at hl 1 rfl) ?_
    refine lv_iload_n hx hb dX7_does_106 rfl (lv_at hl 2 rfl) ?_
    refine x_iconst hx hb dX7_does_107 ?_
    refine x_iadd hx hb dX7_does_108 ?_
    refine x_callVR (As := [.int (zI (q + 1))]) (rest := [.int (zI 0), .ref (a 0)]) S hK (c_X7_numberAt l D cs a σ pa sl sv pd kn ln (q + 1) (by first | exact hpd | exact hFO.1 | omega) (by first | exact hpd | exact hFO.1 | omega)) (cwV 1 hts gX7_does_X7_numberAt rfl rfl rfl (by decide +kernel) ⟨(Nat.le_of_ble_eq_true rfl), (Nat.le_of_ble_eq_true rfl)⟩) (x_rc hK (mAt_0 hM) rfl) hM rfl hl.1 (Nat.le_of_ble_eq_true rfl) dX7_does_109 ⟨Nat.zero_le _, Nat.zero_le _⟩ ?_
    refine x_callVM (As := [.int (zI 0), .int (zI (numA pd ln (q + 1)))]) (rest := []) S hK (c_X7_passes l D cs a σ pa sl sv pd kn ln 0 (numA pd ln (q + 1)) (by first | exact hpd | exact hFO.1 | omega) (by first | exact hpd | exact hFO.1 | omega) (by first | exact hpd | exact hFO.1 | omega) (by show σ 6 + _ < 1000000; omega) (by first | exact hpd | exact hFO.1 | omega)) (cwV 2 hts gX7_does_X7_passes rfl rfl rfl (by decide +kernel) ⟨(Nat.le_of_ble_eq_true rfl), (Nat.le_of_ble_eq_true rfl)⟩) (x_rc hK (mAt_0 hM) rfl) hM rfl hl.1 (Nat.le_of_ble_eq_true rfl) dX7_does_112 ⟨Nat.zero_le _, Nat.zero_le _⟩ hS (fun q hq => hq) (fun H locs hB hF hS => ?_)
    have hM : mAt D cs a (pMins σ 0 (numA pd ln (q + 1)).toNat) pa sl sv pd kn ln H := hB
    exact x_iretM hx hb hr hlocks (by unfold dosR; repeat (first | rw [if_pos (by omega)] | rw [if_neg (by omega)])) (mAt_cong hM (by unfold dosS; repeat (first | rw [if_pos (by omega)] | rw [if_neg (by omega)])) rfl rfl rfl rfl rfl rfl) hS dX7_does_115
  refine x_look (off := 119) (tgt := 132) hx hb dX7_does_13 (by decide) (by simp [Op.lookupswitch.offset_cons, Op.lookupswitch.offset_nil, Ne.symm, k_13_98, k_13_108, k_13_109, k_13_115, k_13_116]) (by first | exact hpd | exact hFO.1 | omega) (by decide) ?_
  rw [if_neg (by omega), if_neg (by omega), if_neg (by omega), if_neg (by omega), if_neg (by omega)] at hw
  have hw2 : 0 ≤ dgS pd ln (q + 1) ∧ dgS pd ln (q + 1) < σ 7 := by split at hw <;> first | assumption | omega
  have hbl := bill_rng hFO hw2
  have hb7 := (hFO.1.2.2 _ hw2.1 hw2.2).2.2.2
  refine lv_aload_n hx hb dX7_does_132 rfl (lv_at hl 1 rfl) ?_
  refine lv_iload_n hx hb dX7_does_133 rfl (lv_at hl 0 rfl) ?_
  refine x_callVM (As := [.int (zI (dgS pd ln (q + 1)))]) (rest := []) S hK (c_X7_visits l D cs a σ pa sl sv pd kn ln (dgS pd ln (q + 1)) (by first | exact hpd | exact hFO.1 | omega) (by first | exact hpd | exact hFO.1 | omega) (by first | exact hpd | exact hFO.1 | omega) (by first | exact hpd | exact hFO.1 | omega)) (cwV 1 hts gX7_does_X7_visits rfl rfl rfl (by decide +kernel) ⟨(Nat.le_of_ble_eq_true rfl), (Nat.le_of_ble_eq_true rfl)⟩) (x_rc hK (mAt_0 hM) rfl) hM rfl hl.1 (Nat.le_of_ble_eq_true rfl) dX7_does_134 ⟨Nat.zero_le _, Nat.zero_le _⟩ hS (fun q hq => hq) (fun H locs hB hF hS => ?_)
  have hM : mAt D cs a (vsF σ (dgS pd ln (q + 1))) pa sl sv pd kn ln H := hB
  exact x_iretM hx hb hr hlocks (by unfold dosR; repeat (first | rw [if_pos (by omega)] | rw [if_neg (by omega)])) (mAt_cong hM (by unfold dosS; repeat (first | rw [if_pos (by omega)] | rw [if_neg (by omega)])) rfl rfl rfl rfl rfl rfl) hS dX7_does_137
set_option maxHeartbeats 4000000 in
set_option maxRecDepth 100000 in
theorem c_X7_carryOut_bad (l : Launch) (D : va_G) (cs : Nat → ClassId) (a : Int → Nat) (σ : Int → Int) (pa : Int → Int) (sl : Int → Int) (sv : Int → Int) (pd : Int → Int) (kn : Int) (ln : Int) (hpd : pOK pd ln) (hn : ¬ flt pd ln 80 0 = -6) : kR D cs l yX7_carryOut wsX7_carryOut ({ frames := 7, cells := 0, slots := 0, locals := 165 } : Room) [.ref (a 0)] (fun H => mAt D cs a σ pa sl sv pd kn ln H) (some (.int (zI (-3)))) := by
  refine Met.ofW (cc := cX7_carryOut) (maxL := 4) (ret := (some .int)) (by decide) rfl ?_
  intro p e s m args below meth c s₁ B hml hv
  obtain ⟨rfl, hK, hM⟩ := hv
  have hx := B.exec
  have hb := B.bytes
  have hr := B.returns
  have hts := atoms_spec (ws := wsX7_carryOut) B.pre
  have hown : s.vm.findClass RX7 = some m.cls := findClass_of_methodNamed B.named
  have hlocks := B.notSynchronized
  have S : CallFix p m c cX7_carryOut 4 s (([.ref (a 0)] : List Value)).toArray wsX7_carryOut RX7 := ⟨hx, hb, hml, hown, hts⟩
  have hin7 : ∀ w ∈ wsX70, w ∈ wsX7_carryOut := by decide +kernel
  have hl := lv_entry ([.ref (a 0)]) (n := 4) (Nat.le_of_ble_eq_true rfl)
  rw [lg_entry_eq]
  generalize (lg_sl ([.ref (a 0)]) ++ List.replicate (4 - (lg_sl ([.ref (a 0)])).length) Slot.unset).toArray = ls at hl ⊢
  have hl : lv_has ls 4 [(0, .ref (a 0))] := hl
  have hfr := flt_rng hpd 80 0 (by decide) hpd.1.1
  refine lv_aload_n hx hb dX7_carryOut_0 rfl (lv_at hl 0 rfl) ?_
  refine x_callVR (As := []) (rest := []) S hK (c_X7_fault l D cs a σ pa sl sv pd kn ln (by first | exact hpd | omega)) (cwV 0 hts gX7_carryOut_X7_fault rfl rfl rfl (by decide +kernel) ⟨(Nat.le_of_ble_eq_true rfl), (Nat.le_of_ble_eq_true rfl)⟩) (x_rc hK (mAt_0 hM) rfl) hM rfl hl.1 (Nat.le_of_ble_eq_true rfl) dX7_carryOut_1 ⟨Nat.zero_le _, Nat.zero_le _⟩ ?_
  refine x_bipush hx hb dX7_carryOut_4 (by decide +kernel) ?_
  refine x_icmp_eq (tgt := 12) hx hb dX7_carryOut_6 (by decide) (by first | exact hpd | omega) (by first | exact hpd | omega) (fun c_6 => ?_) (fun c_6 => ?_)
  · exact absurd c_6 hn
  · refine x_bipush hx hb dX7_carryOut_9 (by decide +kernel) ?_
    exact x_iretR hx hb hr hlocks (by first | rfl | omega) rfl dX7_carryOut_11
set_option maxHeartbeats 4000000 in
set_option maxRecDepth 100000 in
theorem c_X7_carryOut_ok (l : Launch) (D : va_G) (cs : Nat → ClassId) (a : Int → Nat) (σ : Int → Int) (pa : Int → Int) (sl : Int → Int) (sv : Int → Int) (pd : Int → Int) (kn : Int) (ln : Int) (N : Int) (hFO : fOK N σ) (hpd : pOK pd ln) (hn : flt pd ln 80 0 = -6) (hkn : 0 ≤ kn ∧ kn ≤ 6) (hN : 0 ≤ N ∧ N ≤ 1000000) (hI : mI a) : kM D cs l yX7_carryOut wsX7_carryOut ({ frames := 7, cells := 0, slots := 0, locals := 165 } : Room) [.ref (a 0)] (fun H => mAt D cs a σ pa sl sv pd kn ln H) (some (.int (zI (cosN pd ln 81 σ 0)))) (fun H => mAt D cs a (cosS pd ln 81 σ 0) (remP σ pa kn) sl sv pd (remK kn) 0 H) (mC a) := by
  refine Met.ofW (cc := cX7_carryOut) (maxL := 4) (ret := (some .int)) (by decide) rfl ?_
  intro p e s m args below meth c s₁ B hml hv
  obtain ⟨rfl, hK, hM⟩ := hv
  have hx := B.exec
  have hb := B.bytes
  have hr := B.returns
  have hts := atoms_spec (ws := wsX7_carryOut) B.pre
  have hown : s.vm.findClass RX7 = some m.cls := findClass_of_methodNamed B.named
  have hlocks := B.notSynchronized
  have S : CallFix p m c cX7_carryOut 4 s (([.ref (a 0)] : List Value)).toArray wsX7_carryOut RX7 := ⟨hx, hb, hml, hown, hts⟩
  have hin7 : ∀ w ∈ wsX70, w ∈ wsX7_carryOut := by decide +kernel
  have hS : va_S (mC a) s.heap s.heap [] := va_S.rf
  have hl := lv_entry ([.ref (a 0)]) (n := 4) (Nat.le_of_ble_eq_true rfl)
  rw [lg_entry_eq]
  generalize (lg_sl ([.ref (a 0)]) ++ List.replicate (4 - (lg_sl ([.ref (a 0)])).length) Slot.unset).toArray = ls at hl ⊢
  have hl : lv_has ls 4 [(0, .ref (a 0))] := hl
  have hl0 := hpd.1
  refine lv_aload_n hx hb dX7_carryOut_0 rfl (lv_at hl 0 rfl) ?_
  refine x_callVR (As := []) (rest := []) S hK (c_X7_fault l D cs a σ pa sl sv pd kn ln (by first | exact hpd | exact i4 | exact c_33 | omega)) (cwV 0 hts gX7_carryOut_X7_fault rfl rfl rfl (by decide +kernel) ⟨(Nat.le_of_ble_eq_true rfl), (Nat.le_of_ble_eq_true rfl)⟩) (x_rc hK (mAt_0 hM) rfl) hM rfl hl.1 (Nat.le_of_ble_eq_true rfl) dX7_carryOut_1 ⟨Nat.zero_le _, Nat.zero_le _⟩ ?_
  refine x_bipush hx hb dX7_carryOut_4 (by decide +kernel) ?_
  refine x_icmp_eq (tgt := 12) hx hb dX7_carryOut_6 (by decide) (by first | exact hpd | exact i4 | exact c_33 | omega) (by first | exact hpd | exact i4 | exact c_33 | omega) (fun c_6 => ?_) (fun c_6 => ?_)
  · refine lv_aload_n hx hb dX7_carryOut_12 rfl (lv_at hl 0 rfl) ?_
    refine x_callVMn (As := []) (rest := []) S hK (c_X7_remembers l D cs a σ pa sl sv pd kn ln (by first | exact hpd | exact i4 | exact c_33 | omega) (by first | exact hpd | exact i4 | exact c_33 | omega)) (cwV 0 hts gX7_carryOut_X7_remembers rfl rfl rfl (by decide +kernel) ⟨(Nat.le_of_ble_eq_true rfl), (Nat.le_of_ble_eq_true rfl)⟩) (x_rc hK (mAt_0 hM) rfl) hM rfl hl.1 (Nat.le_of_ble_eq_true rfl) dX7_carryOut_13 ⟨Nat.zero_le _, Nat.zero_le _⟩ hS (fun q hq => hq) (fun H locs hB hF hS => ?_)
    have hM : mAt D cs a σ (remP σ pa kn) sl sv pd (remK kn) ln H := hB
    refine x_iconst hx hb dX7_carryOut_16 ?_
    refine lv_istore_n (lv' := [(1, .int (zI 0)), (0, .ref (a 0))]) hx hb dX7_carryOut_17 rfl hl (by decide) rfl (fun ls hl => ?_)
    refine x_iconst hx hb dX7_carryOut_18 ?_
    refine lv_istore_n (lv' := [(2, .int (zI 0)), (1, .int (zI 0)), (0, .ref (a 0))]) hx hb dX7_carryOut_19 rfl hl (by decide) rfl (fun ls hl => ?_)
    have lp20 : ∀ (n : Nat) (q : Int) (n1 : Int) (τ : Int → Int) (f0 : Nat), f0 < n → (0 ≤ n1 ∧ n1 ≤ 81 - (f0 : Int) ∧ f0 ≤ 81) → (2 * (81 - (f0 : Int)) ≤ q ∧ q ≤ ln + 1) → (cosS pd ln f0 τ q = cosS pd ln 81 σ 0) → (cosN pd ln f0 τ q + n1 = cosN pd ln 81 σ 0) → (fOK (N + n1) τ) → (q < ln → flt pd ln (f0 - 1) q = -6) → ∀ (H : Heap) (locs : List Loc), mAt D cs a τ (remP σ pa kn) sl sv pd (remK kn) ln H → va_S (mC a) s.heap H locs → ∀ (ls : Array Slot), lv_has ls 4 [(2, .int (zI q)), (1, .int (zI n1)), (0, .ref (a 0))] → W p l e (headSpec wsX7_carryOut ({ frames := 7, cells := 0, slots := 0, locals := 165 } : Room)).room s m ([.ref (a 0)] : List Value).toArray below meth c H locs 0 0 (MQ below (kQ (some (.int (zI (cosN pd ln 81 σ 0)))) (fun H => mAt D cs a (cosS pd ln 81 σ 0) (remP σ pa kn) sl sv pd (remK kn) 0 H) (mC a)) ([.ref (a 0)] : List Value).toArray s 0 0 (mC a)) (F0 m 20 ls []) := by
      intro n
      induction n with
      | zero => intro q n1 τ f0 hms; exact absurd hms (Nat.not_lt_zero _)
      | succ n ih =>
        intro q n1 τ f0 hms i0 i1 i2 i3 i4 i5 H locs hM hS ls hl
        have ih20 := ih
        clear ih
        refine lv_iload_n hx hb dX7_carryOut_20 rfl (lv_at hl 0 rfl) ?_
        refine lv_aload_n hx hb dX7_carryOut_21 rfl (lv_at hl 2 rfl) ?_
        refine m_g_length S hin7 hK hM (hts (.fieldLink RX7 135 "EnergyDiscsModel" "length" "I") (by decide +kernel)) dX7_carryOut_22 ?_
        refine x_icmp_ge (tgt := 56) hx hb dX7_carryOut_25 (by decide) (by first | exact hpd | exact i4 | exact c_33 | omega) (by first | exact hpd | exact i4 | exact c_33 | omega) (fun c_25 => ?_) (fun c_25 => ?_)
        · have hstop : ¬ (q < ln ∧ whN τ pd ln q = 0) := fun h => by first | exact absurd h.1 (by omega) | exact c_33 h.2
          have hcs : cosS pd ln f0 τ q = τ := cosS_stop hstop
          have hcn : cosN pd ln f0 τ q = 0 := cosN_stop hstop
          refine lv_aload_n hx hb dX7_carryOut_56 rfl (lv_at hl 2 rfl) ?_
          refine x_iconst hx hb dX7_carryOut_57 ?_
          refine m_p_length S hin7 hK hM hI hS (hts (.fieldLink RX7 135 "EnergyDiscsModel" "length" "I") (by decide +kernel)) dX7_carryOut_58 (fun H locs hM hS => ?_)
          refine lv_iload_n hx hb dX7_carryOut_61 rfl (lv_at hl 1 rfl) ?_
          exact x_iretM hx hb hr hlocks (by omega) (mAt_cong hM (by rw [← i2, hcs]) rfl rfl rfl rfl rfl rfl) hS dX7_carryOut_62
        · have hq5 := i5 (by omega)
          obtain ⟨g, hg⟩ : ∃ g, f0 = g + 2 := ⟨f0 - 2, by omega⟩
          rw [show f0 - 1 = g + 1 by omega] at hq5
          have ho := ordE_rng pd ln q (by omega)
          have hfl := flt_ord hq5 (by omega)
          refine lv_aload_n hx hb dX7_carryOut_28 rfl (lv_at hl 2 rfl) ?_
          refine lv_iload_n hx hb dX7_carryOut_29 rfl (lv_at hl 0 rfl) ?_
          refine x_callVR (As := [.int (zI q)]) (rest := []) S hK (c_X7_whyNot l D cs a τ (remP σ pa kn) sl sv pd (remK kn) ln q (N + n1) (by first | exact hpd | exact i4 | exact c_33 | omega) (by first | exact hpd | exact i4 | exact c_33 | omega) (by first | exact hpd | exact i4 | exact c_33 | omega)) (cwV 1 hts gX7_carryOut_X7_whyNot rfl rfl rfl (by decide +kernel) ⟨(Nat.le_of_ble_eq_true rfl), (Nat.le_of_ble_eq_true rfl)⟩) (x_rc hK (mAt_0 hM) rfl) hM rfl hl.1 (Nat.le_of_ble_eq_true rfl) dX7_carryOut_30 ⟨Nat.zero_le _, Nat.zero_le _⟩ ?_
          have hwr := whN_rng τ pd ln q
          refine x_if_ne (tgt := 56) hx hb dX7_carryOut_33 (by decide) (by first | exact hpd | exact i4 | exact c_33 | omega) (fun c_33 => ?_) (fun c_33 => ?_)
          · have hstop : ¬ (q < ln ∧ whN τ pd ln q = 0) := fun h => by first | exact absurd h.1 (by omega) | exact c_33 h.2
            have hcs : cosS pd ln f0 τ q = τ := cosS_stop hstop
            have hcn : cosN pd ln f0 τ q = 0 := cosN_stop hstop
            refine lv_aload_n hx hb dX7_carryOut_56 rfl (lv_at hl 2 rfl) ?_
            refine x_iconst hx hb dX7_carryOut_57 ?_
            refine m_p_length S hin7 hK hM hI hS (hts (.fieldLink RX7 135 "EnergyDiscsModel" "length" "I") (by decide +kernel)) dX7_carryOut_58 (fun H locs hM hS => ?_)
            refine lv_iload_n hx hb dX7_carryOut_61 rfl (lv_at hl 1 rfl) ?_
            exact x_iretM hx hb hr hlocks (by omega) (mAt_cong hM (by rw [← i2, hcs]) rfl rfl rfl rfl rfl rfl) hS dX7_carryOut_62
          · refine lv_aload_n hx hb dX7_carryOut_36 rfl (lv_at hl 2 rfl) ?_
            refine lv_iload_n hx hb dX7_carryOut_37 rfl (lv_at hl 0 rfl) ?_
            refine x_callVM (As := [.int (zI q)]) (rest := []) S hK (c_X7_does l D cs a τ (remP σ pa kn) sl sv pd (remK kn) ln q (N + n1) (by first | exact hpd | exact i4 | exact c_33 | omega) (by first | exact hpd | exact i4 | exact c_33 | omega) (by first | exact hpd | exact i4 | exact c_33 | omega) (by first | exact hpd | exact i4 | exact c_33 | omega) (by first | exact hpd | exact i4 | exact c_33 | omega)) (cwV 1 hts gX7_carryOut_X7_does rfl rfl rfl (by decide +kernel) ⟨(Nat.le_of_ble_eq_true rfl), (Nat.le_of_ble_eq_true rfl)⟩) (x_rc hK (mAt_0 hM) rfl) hM rfl hl.1 (Nat.le_of_ble_eq_true rfl) dX7_carryOut_38 ⟨Nat.zero_le _, Nat.zero_le _⟩ hS (fun q hq => hq) (fun H locs hB hF hS => ?_)
            have hM : mAt D cs a (dosS τ pd ln q) (remP σ pa kn) sl sv pd (remK kn) ln H := hB
            refine lv_istore_n (lv' := [(3, .int (zI (dosR τ pd ln q))), (2, .int (zI q)), (1, .int (zI n1)), (0, .ref (a 0))]) hx hb dX7_carryOut_41 rfl hl (by decide) rfl (fun ls hl => ?_)
            refine x_iinc (x := n1) (lv' := [(1, .int (zI (n1 + 1))), (3, .int (zI (dosR τ pd ln q))), (2, .int (zI q)), (0, .ref (a 0))]) hx hb dX7_carryOut_42 hl (k := 2) rfl (by decide) rfl (fun ls hl => ?_)
            refine lv_aload_n hx hb dX7_carryOut_45 rfl (lv_at hl 3 rfl) ?_
            refine lv_iload_n hx hb dX7_carryOut_46 rfl (lv_at hl 2 rfl) ?_
            refine x_callVR (As := [.int (zI q)]) (rest := []) S hK (c_X7_orderEnd l D cs a (dosS τ pd ln q) (remP σ pa kn) sl sv pd (remK kn) ln q (by first | exact hpd | exact i4 | exact c_33 | omega) (by first | exact hpd | exact i4 | exact c_33 | omega)) (cwV 1 hts gX7_carryOut_X7_orderEnd rfl rfl rfl (by decide +kernel) ⟨(Nat.le_of_ble_eq_true rfl), (Nat.le_of_ble_eq_true rfl)⟩) (x_rc hK (mAt_0 hM) rfl) hM rfl hl.1 (Nat.le_of_ble_eq_true rfl) dX7_carryOut_47 ⟨Nat.zero_le _, Nat.zero_le _⟩ ?_
            refine x_iconst hx hb dX7_carryOut_50 ?_
            refine x_iadd hx hb dX7_carryOut_51 ?_
            refine lv_istore_n (lv' := [(2, .int (zI ((ordE pd ln q) + 1))), (1, .int (zI (n1 + 1))), (3, .int (zI (dosR τ pd ln q))), (0, .ref (a 0))]) hx hb dX7_carryOut_52 rfl hl (by decide) rfl (fun ls hl => ?_)
            refine lv_goto (tgt := 20) hx hb dX7_carryOut_53 (by decide) ?_
            exact ih20 ((ordE pd ln q) + 1) (n1 + 1) (dosS τ pd ln q) (f0 - 1) (by omega) (by omega) (by have hlt := fun (q2 : cdS pd ln (ordE pd ln q) = 59) => cdS_lt (pd := pd) (ln := ln) (p := ordE pd ln q) (by omega); rcases hfl.2 with h9 | h9 <;> (try have := hlt h9.1) <;> omega) (by rw [← i2, hg, cosS_go (by omega) c_33]; rfl) (by rw [← i3, hg, cosN_go (by omega) c_33]; show cosN pd ln (g + 1) _ _ + _ = _; omega) (by rw [← Int.add_assoc]; exact fOK_dos i4 (by omega) c_33) (by intro h9; rw [hg]; show flt pd ln g _ = -6; rcases hfl.2 with h8 | h8 <;> first | exact h8.2 | omega) H locs hM hS ls (lv_sub hl [0, 1, 3] rfl)
    exact lp20 ((81 : Nat) + 1) 0 0 σ 81 (Nat.lt_succ_self _) (by omega) (by omega) (by rfl) (by exact Int.add_zero _) (by rw [Int.add_zero]; exact hFO) (by exact fun _ => hn) H locs hM hS ls (lv_sub hl [0, 1, 2] rfl)
  · exact absurd hn c_6
set_option maxHeartbeats 4000000 in
set_option maxRecDepth 100000 in
theorem c_X7_undo_bad (l : Launch) (D : va_G) (cs : Nat → ClassId) (a : Int → Nat) (σ : Int → Int) (pa : Int → Int) (sl : Int → Int) (sv : Int → Int) (pd : Int → Int) (kn : Int) (ln : Int) (hkn : kn = 0) : kR D cs l yX7_undo wsX7_undo ({ frames := 0, cells := 0, slots := 0, locals := 0 } : Room) [.ref (a 0)] (fun H => mAt D cs a σ pa sl sv pd kn ln H) (some (.int (zI (-5)))) := by
  refine Met.ofW (cc := cX7_undo) (maxL := 2) (ret := (some .int)) (by decide) rfl ?_
  intro p e s m args below meth c s₁ B hml hv
  obtain ⟨rfl, hK, hM⟩ := hv
  have hx := B.exec
  have hb := B.bytes
  have hr := B.returns
  have hts := atoms_spec (ws := wsX7_undo) B.pre
  have hown : s.vm.findClass RX7 = some m.cls := findClass_of_methodNamed B.named
  have hlocks := B.notSynchronized
  have S : CallFix p m c cX7_undo 2 s (([.ref (a 0)] : List Value)).toArray wsX7_undo RX7 := ⟨hx, hb, hml, hown, hts⟩
  have hin7 : ∀ w ∈ wsX70, w ∈ wsX7_undo := by decide +kernel
  have hl := lv_entry ([.ref (a 0)]) (n := 2) (Nat.le_of_ble_eq_true rfl)
  rw [lg_entry_eq]
  generalize (lg_sl ([.ref (a 0)]) ++ List.replicate (2 - (lg_sl ([.ref (a 0)])).length) Slot.unset).toArray = ls at hl ⊢
  have hl : lv_has ls 2 [(0, .ref (a 0))] := hl
  refine lv_aload_n hx hb dX7_undo_0 rfl (lv_at hl 0 rfl) ?_
  refine m_g_known S hin7 hK hM (hts (.fieldLink RX7 49 "EnergyDiscsModel" "known" "I") (by decide +kernel)) dX7_undo_1 ?_
  refine x_if_ne (tgt := 10) hx hb dX7_undo_4 (by decide) (by omega) (fun c_4 => ?_) (fun c_4 => ?_)
  · exact absurd hkn c_4
  · refine x_bipush hx hb dX7_undo_7 (by decide +kernel) ?_
    exact x_iretR hx hb hr hlocks (by first | rfl | omega) rfl dX7_undo_9
set_option maxHeartbeats 4000000 in
set_option maxRecDepth 100000 in
theorem c_X7_undo_ok (l : Launch) (D : va_G) (cs : Nat → ClassId) (a : Int → Nat) (σ : Int → Int) (pa : Int → Int) (sl : Int → Int) (sv : Int → Int) (pd : Int → Int) (kn : Int) (ln : Int) (hkn : 1 ≤ kn ∧ kn ≤ 6) (hI : mI a) : kM D cs l yX7_undo wsX7_undo ({ frames := 0, cells := 0, slots := 0, locals := 0 } : Room) [.ref (a 0)] (fun H => mAt D cs a σ pa sl sv pd kn ln H) (some (.int (zI (kn - 1)))) (fun H => mAt D cs a (cpN σ (fun i => pa (138 * (kn - 1) + i)) 0 138) pa sl sv pd (kn - 1) ln H) (mC a) := by
  refine Met.ofW (cc := cX7_undo) (maxL := 2) (ret := (some .int)) (by decide) rfl ?_
  intro p e s m args below meth c s₁ B hml hv
  obtain ⟨rfl, hK, hM⟩ := hv
  have hx := B.exec
  have hb := B.bytes
  have hr := B.returns
  have hts := atoms_spec (ws := wsX7_undo) B.pre
  have hown : s.vm.findClass RX7 = some m.cls := findClass_of_methodNamed B.named
  have hlocks := B.notSynchronized
  have S : CallFix p m c cX7_undo 2 s (([.ref (a 0)] : List Value)).toArray wsX7_undo RX7 := ⟨hx, hb, hml, hown, hts⟩
  have hin7 : ∀ w ∈ wsX70, w ∈ wsX7_undo := by decide +kernel
  have hS : va_S (mC a) s.heap s.heap [] := va_S.rf
  have hl := lv_entry ([.ref (a 0)]) (n := 2) (Nat.le_of_ble_eq_true rfl)
  rw [lg_entry_eq]
  generalize (lg_sl ([.ref (a 0)]) ++ List.replicate (2 - (lg_sl ([.ref (a 0)])).length) Slot.unset).toArray = ls at hl ⊢
  have hl : lv_has ls 2 [(0, .ref (a 0))] := hl
  refine lv_aload_n hx hb dX7_undo_0 rfl (lv_at hl 0 rfl) ?_
  refine m_g_known S hin7 hK hM (hts (.fieldLink RX7 49 "EnergyDiscsModel" "known" "I") (by decide +kernel)) dX7_undo_1 ?_
  refine x_if_ne (tgt := 10) hx hb dX7_undo_4 (by decide) (by omega) (fun c_4 => ?_) (fun c_4 => ?_)
  · refine lv_aload_n hx hb dX7_undo_10 rfl (lv_at hl 0 rfl) ?_
    refine lv_dup hx hb dX7_undo_11 rfl ?_
    refine m_g_known S hin7 hK hM (hts (.fieldLink RX7 49 "EnergyDiscsModel" "known" "I") (by decide +kernel)) dX7_undo_12 ?_
    refine x_iconst hx hb dX7_undo_15 ?_
    refine x_isub hx hb dX7_undo_16 ?_
    refine m_p_known S hin7 hK hM hI hS (hts (.fieldLink RX7 49 "EnergyDiscsModel" "known" "I") (by decide +kernel)) dX7_undo_17 (fun H locs hM hS => ?_)
    refine x_iconst hx hb dX7_undo_20 ?_
    refine lv_istore_n (lv' := [(1, .int (zI 0)), (0, .ref (a 0))]) hx hb dX7_undo_21 rfl hl (by decide) rfl (fun ls hl => ?_)
    have lp22 : ∀ (n : Nat) (j : Int) (P : Int → Int), (138 - j).toNat < n → (0 ≤ j ∧ j ≤ 138) → (P = cpN σ (fun i => pa (138 * (kn - 1) + i)) 0 j) → ∀ (H : Heap) (locs : List Loc), mAt D cs a P pa sl sv pd (kn - 1) ln H → va_S (mC a) s.heap H locs → ∀ (ls : Array Slot), lv_has ls 2 [(1, .int (zI j)), (0, .ref (a 0))] → W p l e (headSpec wsX7_undo ({ frames := 0, cells := 0, slots := 0, locals := 0 } : Room)).room s m ([.ref (a 0)] : List Value).toArray below meth c H locs 0 0 (MQ below (kQ (some (.int (zI (kn - 1)))) (fun H => mAt D cs a (cpN σ (fun i => pa (138 * (kn - 1) + i)) 0 138) pa sl sv pd (kn - 1) ln H) (mC a)) ([.ref (a 0)] : List Value).toArray s 0 0 (mC a)) (F0 m 22 ls []) := by
      intro n
      induction n with
      | zero => intro j P hms; exact absurd hms (Nat.not_lt_zero _)
      | succ n ih =>
        intro j P hms hj hP H locs hM hS ls hl
        have ih22 := ih
        clear ih
        refine lv_iload_n hx hb dX7_undo_22 rfl (lv_at hl 0 rfl) ?_
        refine x_sipush hx hb dX7_undo_23 (by decide +kernel) ?_
        refine x_icmp_ge (tgt := 56) hx hb dX7_undo_26 (by decide) (by omega) (by omega) (fun c_26 => ?_) (fun c_26 => ?_)
        · refine lv_aload_n hx hb dX7_undo_56 rfl (lv_at hl 1 rfl) ?_
          refine m_g_known S hin7 hK hM (hts (.fieldLink RX7 49 "EnergyDiscsModel" "known" "I") (by decide +kernel)) dX7_undo_57 ?_
          exact x_iretM hx hb hr hlocks (by first | rfl | omega) (mAt_cong hM (by rw [hP, show j = 138 by omega]) rfl rfl rfl rfl rfl rfl) hS dX7_undo_60
        · refine lv_aload_n hx hb dX7_undo_29 rfl (lv_at hl 1 rfl) ?_
          refine m_g_s S hin7 hK hM (hts (.fieldLink RX7 7 "EnergyDiscsModel" "s" "[J") (by decide +kernel)) dX7_undo_30 ?_
          refine lv_iload_n hx hb dX7_undo_33 rfl (lv_at hl 0 rfl) ?_
          refine lv_aload_n hx hb dX7_undo_34 rfl (lv_at hl 1 rfl) ?_
          refine m_g_past S hin7 hK hM (hts (.fieldLink RX7 13 "EnergyDiscsModel" "past" "[J") (by decide +kernel)) dX7_undo_35 ?_
          refine x_sipush hx hb dX7_undo_38 (by decide +kernel) ?_
          refine lv_aload_n hx hb dX7_undo_41 rfl (lv_at hl 1 rfl) ?_
          refine m_g_known S hin7 hK hM (hts (.fieldLink RX7 49 "EnergyDiscsModel" "known" "I") (by decide +kernel)) dX7_undo_42 ?_
          refine x_imul hx hb dX7_undo_45 ?_
          refine lv_iload_n hx hb dX7_undo_46 rfl (lv_at hl 0 rfl) ?_
          refine x_iadd hx hb dX7_undo_47 ?_
          refine m_l_past S hK hM (by omega) dX7_undo_48 ?_
          refine m_s_s S hK hM hI hS (by omega) dX7_undo_49 (fun H locs hM hS => ?_)
          refine x_iinc (x := j) (lv' := [(1, .int (zI (j + 1))), (0, .ref (a 0))]) hx hb dX7_undo_50 hl (k := 0) rfl (by decide) rfl (fun ls hl => ?_)
          refine lv_goto (tgt := 22) hx hb dX7_undo_53 (by decide) ?_
          exact ih22 (j + 1) (up P j (pa ((138 * (kn - 1)) + j))) (by omega) (by omega) (by subst hP; exact cpN_step (by omega) rfl hj.1) H locs hM hS ls (lv_sub hl [0, 1] rfl)
    exact lp22 ((138 - (0 : Int)).toNat + 1) 0 σ (Nat.lt_succ_self _) (by omega) (by exact (cpN_0 _ _ _).symm) H locs hM hS ls (lv_sub hl [0, 1] rfl)
  · exfalso; omega
set_option maxHeartbeats 4000000 in
set_option maxRecDepth 100000 in
theorem c_X7_save_bad (l : Launch) (D : va_G) (cs : Nat → ClassId) (a : Int → Nat) (σ : Int → Int) (pa : Int → Int) (sl : Int → Int) (sv : Int → Int) (pd : Int → Int) (kn : Int) (ln : Int) (k : Int) (hk : -2147483648 ≤ k ∧ k < 2147483648) (hn : ¬ (0 ≤ k ∧ k ≤ 1)) : kR D cs l yX7_save wsX7_save ({ frames := 1, cells := 0, slots := 0, locals := 22 } : Room) [.ref (a 0), .int (zI k)] (fun H => mAt D cs a σ pa sl sv pd kn ln H) (some (.int (zI (-2)))) := by
  refine Met.ofW (cc := cX7_save) (maxL := 3) (ret := (some .int)) (by decide) rfl ?_
  intro p e s m args below meth c s₁ B hml hv
  obtain ⟨rfl, hK, hM⟩ := hv
  have hx := B.exec
  have hb := B.bytes
  have hr := B.returns
  have hts := atoms_spec (ws := wsX7_save) B.pre
  have hown : s.vm.findClass RX7 = some m.cls := findClass_of_methodNamed B.named
  have hlocks := B.notSynchronized
  have S : CallFix p m c cX7_save 3 s (([.ref (a 0), .int (zI k)] : List Value)).toArray wsX7_save RX7 := ⟨hx, hb, hml, hown, hts⟩
  have hin7 : ∀ w ∈ wsX70, w ∈ wsX7_save := by decide +kernel
  have hl := lv_entry ([.ref (a 0), .int (zI k)]) (n := 3) (Nat.le_of_ble_eq_true rfl)
  rw [lg_entry_eq]
  generalize (lg_sl ([.ref (a 0), .int (zI k)]) ++ List.replicate (3 - (lg_sl ([.ref (a 0), .int (zI k)])).length) Slot.unset).toArray = ls at hl ⊢
  have hl : lv_has ls 3 [(0, .ref (a 0)), (1, .int (zI k))] := hl
  refine lv_iload_n hx hb dX7_save_0 rfl (lv_at hl 1 rfl) ?_
  refine x_iconst hx hb dX7_save_1 ?_
  refine x_iconst hx hb dX7_save_2 ?_
  refine x_callSR (As := [.int (zI k), .int (zI 0), .int (zI 1)]) (rest := []) S hK (c_X7_in l D cs k 0 1 (by omega) (by omega) (by omega)) (va_cwS 3 hts gX7_save_X7_in rfl rfl rfl (by decide +kernel) ⟨(Nat.le_of_ble_eq_true rfl), (Nat.le_of_ble_eq_true rfl)⟩) trivial rfl hl.1 (Nat.le_of_ble_eq_true rfl) dX7_save_3 ⟨Nat.zero_le _, Nat.zero_le _⟩ ?_
  refine x_ifb_ne (tgt := 12) hx hb dX7_save_6 (by decide)  (fun c_6 => ?_) (fun c_6 => ?_)
  · exact absurd c_6 hn
  · refine x_bipush hx hb dX7_save_9 (by decide +kernel) ?_
    exact x_iretR hx hb hr hlocks (by first | rfl | omega) rfl dX7_save_11
set_option maxHeartbeats 4000000 in
set_option maxRecDepth 100000 in
theorem c_X7_save_ok (l : Launch) (D : va_G) (cs : Nat → ClassId) (a : Int → Nat) (σ : Int → Int) (pa : Int → Int) (sl : Int → Int) (sv : Int → Int) (pd : Int → Int) (kn : Int) (ln : Int) (k : Int) (hk : 0 ≤ k ∧ k ≤ 1) (hI : mI a) : kM D cs l yX7_save wsX7_save ({ frames := 1, cells := 0, slots := 0, locals := 22 } : Room) [.ref (a 0), .int (zI k)] (fun H => mAt D cs a σ pa sl sv pd kn ln H) (some (.int (zI (σ 7)))) (fun H => mAt D cs a σ pa (cpN sl σ (138 * k) 138) (up sv k 1) pd kn ln H) (mC a) := by
  refine Met.ofW (cc := cX7_save) (maxL := 3) (ret := (some .int)) (by decide) rfl ?_
  intro p e s m args below meth c s₁ B hml hv
  obtain ⟨rfl, hK, hM⟩ := hv
  have hx := B.exec
  have hb := B.bytes
  have hr := B.returns
  have hts := atoms_spec (ws := wsX7_save) B.pre
  have hown : s.vm.findClass RX7 = some m.cls := findClass_of_methodNamed B.named
  have hlocks := B.notSynchronized
  have S : CallFix p m c cX7_save 3 s (([.ref (a 0), .int (zI k)] : List Value)).toArray wsX7_save RX7 := ⟨hx, hb, hml, hown, hts⟩
  have hin7 : ∀ w ∈ wsX70, w ∈ wsX7_save := by decide +kernel
  have hS : va_S (mC a) s.heap s.heap [] := va_S.rf
  have hl := lv_entry ([.ref (a 0), .int (zI k)]) (n := 3) (Nat.le_of_ble_eq_true rfl)
  rw [lg_entry_eq]
  generalize (lg_sl ([.ref (a 0), .int (zI k)]) ++ List.replicate (3 - (lg_sl ([.ref (a 0), .int (zI k)])).length) Slot.unset).toArray = ls at hl ⊢
  have hl : lv_has ls 3 [(0, .ref (a 0)), (1, .int (zI k))] := hl
  refine lv_iload_n hx hb dX7_save_0 rfl (lv_at hl 1 rfl) ?_
  refine x_iconst hx hb dX7_save_1 ?_
  refine x_iconst hx hb dX7_save_2 ?_
  refine x_callSR (As := [.int (zI k), .int (zI 0), .int (zI 1)]) (rest := []) S hK (c_X7_in l D cs k 0 1 (by omega) (by omega) (by omega)) (va_cwS 3 hts gX7_save_X7_in rfl rfl rfl (by decide +kernel) ⟨(Nat.le_of_ble_eq_true rfl), (Nat.le_of_ble_eq_true rfl)⟩) trivial rfl hl.1 (Nat.le_of_ble_eq_true rfl) dX7_save_3 ⟨Nat.zero_le _, Nat.zero_le _⟩ ?_
  refine x_ifb_ne (tgt := 12) hx hb dX7_save_6 (by decide)  (fun c_6 => ?_) (fun c_6 => ?_)
  · refine x_iconst hx hb dX7_save_12 ?_
    refine lv_istore_n (lv' := [(2, .int (zI 0)), (0, .ref (a 0)), (1, .int (zI k))]) hx hb dX7_save_13 rfl hl (by decide) rfl (fun ls hl => ?_)
    have lp14 : ∀ (n : Nat) (j : Int) (P : Int → Int), (138 - j).toNat < n → (0 ≤ j ∧ j ≤ 138) → (P = cpN sl σ (138 * k) j) → ∀ (H : Heap) (locs : List Loc), mAt D cs a σ pa P sv pd kn ln H → va_S (mC a) s.heap H locs → ∀ (ls : Array Slot), lv_has ls 3 [(2, .int (zI j)), (0, .ref (a 0)), (1, .int (zI k))] → W p l e (headSpec wsX7_save ({ frames := 1, cells := 0, slots := 0, locals := 22 } : Room)).room s m ([.ref (a 0), .int (zI k)] : List Value).toArray below meth c H locs 0 0 (MQ below (kQ (some (.int (zI (σ 7)))) (fun H => mAt D cs a σ pa (cpN sl σ (138 * k) 138) (up sv k 1) pd kn ln H) (mC a)) ([.ref (a 0), .int (zI k)] : List Value).toArray s 0 0 (mC a)) (F0 m 14 ls []) := by
      intro n
      induction n with
      | zero => intro j P hms; exact absurd hms (Nat.not_lt_zero _)
      | succ n ih =>
        intro j P hms hj hP H locs hM hS ls hl
        have ih14 := ih
        clear ih
        refine lv_iload_n hx hb dX7_save_14 rfl (lv_at hl 0 rfl) ?_
        refine x_sipush hx hb dX7_save_15 (by decide +kernel) ?_
        refine x_icmp_ge (tgt := 45) hx hb dX7_save_18 (by decide) (by omega) (by omega) (fun c_18 => ?_) (fun c_18 => ?_)
        · refine lv_aload_n hx hb dX7_save_45 rfl (lv_at hl 1 rfl) ?_
          refine m_g_isSaved S hin7 hK hM (hts (.fieldLink RX7 19 "EnergyDiscsModel" "isSaved" "[Z") (by decide +kernel)) dX7_save_46 ?_
          refine lv_iload_n hx hb dX7_save_49 rfl (lv_at hl 2 rfl) ?_
          refine x_iconst hx hb dX7_save_50 ?_
          refine m_s_isSaved S hK hM hI hS (by rfl) (by omega) dX7_save_51 (fun H locs hM hS => ?_)
          refine lv_aload_n hx hb dX7_save_52 rfl (lv_at hl 1 rfl) ?_
          refine x_bipush hx hb dX7_save_53 (by decide +kernel) ?_
          refine x_callVR (As := [.int (zI 7)]) (rest := []) S hK (c_X7_num l D cs a σ pa P (up sv k 1) pd kn ln 7 (by omega)) (cwV 1 hts gX7_save_X7_num rfl rfl rfl (by decide +kernel) ⟨(Nat.le_of_ble_eq_true rfl), (Nat.le_of_ble_eq_true rfl)⟩) (x_rc hK (mAt_0 hM) rfl) hM rfl hl.1 (Nat.le_of_ble_eq_true rfl) dX7_save_55 ⟨Nat.zero_le _, Nat.zero_le _⟩ ?_
          exact x_iretM hx hb hr hlocks (by first | rfl | omega) (mAt_cong hM rfl rfl (by rw [hP, show j = 138 by omega]) rfl rfl rfl rfl) hS dX7_save_58
        · refine lv_aload_n hx hb dX7_save_21 rfl (lv_at hl 1 rfl) ?_
          refine m_g_slots S hin7 hK hM (hts (.fieldLink RX7 16 "EnergyDiscsModel" "slots" "[J") (by decide +kernel)) dX7_save_22 ?_
          refine x_sipush hx hb dX7_save_25 (by decide +kernel) ?_
          refine lv_iload_n hx hb dX7_save_28 rfl (lv_at hl 2 rfl) ?_
          refine x_imul hx hb dX7_save_29 ?_
          refine lv_iload_n hx hb dX7_save_30 rfl (lv_at hl 0 rfl) ?_
          refine x_iadd hx hb dX7_save_31 ?_
          refine lv_aload_n hx hb dX7_save_32 rfl (lv_at hl 1 rfl) ?_
          refine m_g_s S hin7 hK hM (hts (.fieldLink RX7 7 "EnergyDiscsModel" "s" "[J") (by decide +kernel)) dX7_save_33 ?_
          refine lv_iload_n hx hb dX7_save_36 rfl (lv_at hl 0 rfl) ?_
          refine m_l_s S hK hM (by omega) dX7_save_37 ?_
          refine m_s_slots S hK hM hI hS (by omega) dX7_save_38 (fun H locs hM hS => ?_)
          refine x_iinc (x := j) (lv' := [(2, .int (zI (j + 1))), (0, .ref (a 0)), (1, .int (zI k))]) hx hb dX7_save_39 hl (k := 0) rfl (by decide) rfl (fun ls hl => ?_)
          refine lv_goto (tgt := 14) hx hb dX7_save_42 (by decide) ?_
          exact ih14 (j + 1) (up P ((138 * k) + j) (σ j)) (by omega) (by omega) (by subst hP; exact cpN_step rfl rfl hj.1) H locs hM hS ls (lv_sub hl [0, 1, 2] rfl)
    exact lp14 ((138 - (0 : Int)).toNat + 1) 0 sl (Nat.lt_succ_self _) (by omega) (by exact (cpN_0 _ _ _).symm) s.heap [] hM hS ls (lv_sub hl [0, 1, 2] rfl)
  · exact absurd hk c_6
set_option maxHeartbeats 4000000 in
set_option maxRecDepth 100000 in
theorem c_X7_restore_bad (l : Launch) (D : va_G) (cs : Nat → ClassId) (a : Int → Nat) (σ : Int → Int) (pa : Int → Int) (sl : Int → Int) (sv : Int → Int) (pd : Int → Int) (kn : Int) (ln : Int) (k : Int) (hk : -2147483648 ≤ k ∧ k < 2147483648) (hn : 0 ≤ k → k ≤ 1 → sv k = 0) : kR D cs l yX7_restore wsX7_restore ({ frames := 1, cells := 0, slots := 0, locals := 22 } : Room) [.ref (a 0), .int (zI k)] (fun H => mAt D cs a σ pa sl sv pd kn ln H) (some (.int (zI (if 0 ≤ k ∧ k ≤ 1 then -5 else -2)))) := by
  refine Met.ofW (cc := cX7_restore) (maxL := 3) (ret := (some .int)) (by decide) rfl ?_
  intro p e s m args below meth c s₁ B hml hv
  obtain ⟨rfl, hK, hM⟩ := hv
  have hx := B.exec
  have hb := B.bytes
  have hr := B.returns
  have hts := atoms_spec (ws := wsX7_restore) B.pre
  have hown : s.vm.findClass RX7 = some m.cls := findClass_of_methodNamed B.named
  have hlocks := B.notSynchronized
  have S : CallFix p m c cX7_restore 3 s (([.ref (a 0), .int (zI k)] : List Value)).toArray wsX7_restore RX7 := ⟨hx, hb, hml, hown, hts⟩
  have hin7 : ∀ w ∈ wsX70, w ∈ wsX7_restore := by decide +kernel
  have hl := lv_entry ([.ref (a 0), .int (zI k)]) (n := 3) (Nat.le_of_ble_eq_true rfl)
  rw [lg_entry_eq]
  generalize (lg_sl ([.ref (a 0), .int (zI k)]) ++ List.replicate (3 - (lg_sl ([.ref (a 0), .int (zI k)])).length) Slot.unset).toArray = ls at hl ⊢
  have hl : lv_has ls 3 [(0, .ref (a 0)), (1, .int (zI k))] := hl
  refine lv_iload_n hx hb dX7_restore_0 rfl (lv_at hl 1 rfl) ?_
  refine x_iconst hx hb dX7_restore_1 ?_
  refine x_iconst hx hb dX7_restore_2 ?_
  refine x_callSR (As := [.int (zI k), .int (zI 0), .int (zI 1)]) (rest := []) S hK (c_X7_in l D cs k 0 1 (by omega) (by omega) (by omega)) (va_cwS 3 hts gX7_restore_X7_in rfl rfl rfl (by decide +kernel) ⟨(Nat.le_of_ble_eq_true rfl), (Nat.le_of_ble_eq_true rfl)⟩) trivial rfl hl.1 (Nat.le_of_ble_eq_true rfl) dX7_restore_3 ⟨Nat.zero_le _, Nat.zero_le _⟩ ?_
  refine x_ifb_ne (tgt := 12) hx hb dX7_restore_6 (by decide)  (fun c_6 => ?_) (fun c_6 => ?_)
  · have hn2 := hn c_6.1 c_6.2
    refine lv_aload_n hx hb dX7_restore_12 rfl (lv_at hl 0 rfl) ?_
    refine m_g_isSaved S hin7 hK hM (hts (.fieldLink RX7 19 "EnergyDiscsModel" "isSaved" "[Z") (by decide +kernel)) dX7_restore_13 ?_
    refine lv_iload_n hx hb dX7_restore_16 rfl (lv_at hl 1 rfl) ?_
    refine m_l_isSaved S hK hM (by omega) dX7_restore_17 ?_
    refine x_if_ne (tgt := 24) hx hb dX7_restore_18 (by decide) (by omega) (fun c_18 => ?_) (fun c_18 => ?_)
    · exact absurd hn2 c_18
    · refine x_bipush hx hb dX7_restore_21 (by decide +kernel) ?_
      exact x_iretR hx hb hr hlocks (by first | rw [if_pos c_6] | rw [if_neg c_6]) rfl dX7_restore_23
  · refine x_bipush hx hb dX7_restore_9 (by decide +kernel) ?_
    exact x_iretR hx hb hr hlocks (by first | rw [if_pos c_6] | rw [if_neg c_6]) rfl dX7_restore_11
set_option maxHeartbeats 4000000 in
set_option maxRecDepth 100000 in
theorem c_X7_restore_ok (l : Launch) (D : va_G) (cs : Nat → ClassId) (a : Int → Nat) (σ : Int → Int) (pa : Int → Int) (sl : Int → Int) (sv : Int → Int) (pd : Int → Int) (kn : Int) (ln : Int) (k : Int) (hk : 0 ≤ k ∧ k ≤ 1) (hn : sv k = 1) (hkn : 0 ≤ kn ∧ kn ≤ 6) (hI : mI a) : kM D cs l yX7_restore wsX7_restore ({ frames := 1, cells := 0, slots := 0, locals := 22 } : Room) [.ref (a 0), .int (zI k)] (fun H => mAt D cs a σ pa sl sv pd kn ln H) (some (.int (zI (sl (138 * k + 7))))) (fun H => mAt D cs a (cpN σ (fun i => sl (138 * k + i)) 0 138) (remP σ pa kn) sl sv pd (remK kn) ln H) (mC a) := by
  refine Met.ofW (cc := cX7_restore) (maxL := 3) (ret := (some .int)) (by decide) rfl ?_
  intro p e s m args below meth c s₁ B hml hv
  obtain ⟨rfl, hK, hM⟩ := hv
  have hx := B.exec
  have hb := B.bytes
  have hr := B.returns
  have hts := atoms_spec (ws := wsX7_restore) B.pre
  have hown : s.vm.findClass RX7 = some m.cls := findClass_of_methodNamed B.named
  have hlocks := B.notSynchronized
  have S : CallFix p m c cX7_restore 3 s (([.ref (a 0), .int (zI k)] : List Value)).toArray wsX7_restore RX7 := ⟨hx, hb, hml, hown, hts⟩
  have hin7 : ∀ w ∈ wsX70, w ∈ wsX7_restore := by decide +kernel
  have hS : va_S (mC a) s.heap s.heap [] := va_S.rf
  have hl := lv_entry ([.ref (a 0), .int (zI k)]) (n := 3) (Nat.le_of_ble_eq_true rfl)
  rw [lg_entry_eq]
  generalize (lg_sl ([.ref (a 0), .int (zI k)]) ++ List.replicate (3 - (lg_sl ([.ref (a 0), .int (zI k)])).length) Slot.unset).toArray = ls at hl ⊢
  have hl : lv_has ls 3 [(0, .ref (a 0)), (1, .int (zI k))] := hl
  refine lv_iload_n hx hb dX7_restore_0 rfl (lv_at hl 1 rfl) ?_
  refine x_iconst hx hb dX7_restore_1 ?_
  refine x_iconst hx hb dX7_restore_2 ?_
  refine x_callSR (As := [.int (zI k), .int (zI 0), .int (zI 1)]) (rest := []) S hK (c_X7_in l D cs k 0 1 (by omega) (by omega) (by omega)) (va_cwS 3 hts gX7_restore_X7_in rfl rfl rfl (by decide +kernel) ⟨(Nat.le_of_ble_eq_true rfl), (Nat.le_of_ble_eq_true rfl)⟩) trivial rfl hl.1 (Nat.le_of_ble_eq_true rfl) dX7_restore_3 ⟨Nat.zero_le _, Nat.zero_le _⟩ ?_
  refine x_ifb_ne (tgt := 12) hx hb dX7_restore_6 (by decide)  (fun c_6 => ?_) (fun c_6 => ?_)
  · refine lv_aload_n hx hb dX7_restore_12 rfl (lv_at hl 0 rfl) ?_
    refine m_g_isSaved S hin7 hK hM (hts (.fieldLink RX7 19 "EnergyDiscsModel" "isSaved" "[Z") (by decide +kernel)) dX7_restore_13 ?_
    refine lv_iload_n hx hb dX7_restore_16 rfl (lv_at hl 1 rfl) ?_
    refine m_l_isSaved S hK hM (by omega) dX7_restore_17 ?_
    refine x_if_ne (tgt := 24) hx hb dX7_restore_18 (by decide) (by omega) (fun c_18 => ?_) (fun c_18 => ?_)
    · refine lv_aload_n hx hb dX7_restore_24 rfl (lv_at hl 0 rfl) ?_
      refine x_callVMn (As := []) (rest := []) S hK (c_X7_remembers l D cs a σ pa sl sv pd kn ln (by omega) (by omega)) (cwV 0 hts gX7_restore_X7_remembers rfl rfl rfl (by decide +kernel) ⟨(Nat.le_of_ble_eq_true rfl), (Nat.le_of_ble_eq_true rfl)⟩) (x_rc hK (mAt_0 hM) rfl) hM rfl hl.1 (Nat.le_of_ble_eq_true rfl) dX7_restore_25 ⟨Nat.zero_le _, Nat.zero_le _⟩ hS (fun q hq => hq) (fun H locs hB hF hS => ?_)
      have hM : mAt D cs a σ (remP σ pa kn) sl sv pd (remK kn) ln H := hB
      refine x_iconst hx hb dX7_restore_28 ?_
      refine lv_istore_n (lv' := [(2, .int (zI 0)), (0, .ref (a 0)), (1, .int (zI k))]) hx hb dX7_restore_29 rfl hl (by decide) rfl (fun ls hl => ?_)
      have lp30 : ∀ (n : Nat) (j : Int) (P : Int → Int), (138 - j).toNat < n → (0 ≤ j ∧ j ≤ 138) → (P = cpN σ (fun i => sl (138 * k + i)) 0 j) → ∀ (H : Heap) (locs : List Loc), mAt D cs a P (remP σ pa kn) sl sv pd (remK kn) ln H → va_S (mC a) s.heap H locs → ∀ (ls : Array Slot), lv_has ls 3 [(2, .int (zI j)), (0, .ref (a 0)), (1, .int (zI k))] → W p l e (headSpec wsX7_restore ({ frames := 1, cells := 0, slots := 0, locals := 22 } : Room)).room s m ([.ref (a 0), .int (zI k)] : List Value).toArray below meth c H locs 0 0 (MQ below (kQ (some (.int (zI (sl (138 * k + 7))))) (fun H => mAt D cs a (cpN σ (fun i => sl (138 * k + i)) 0 138) (remP σ pa kn) sl sv pd (remK kn) ln H) (mC a)) ([.ref (a 0), .int (zI k)] : List Value).toArray s 0 0 (mC a)) (F0 m 30 ls []) := by
        intro n
        induction n with
        | zero => intro j P hms; exact absurd hms (Nat.not_lt_zero _)
        | succ n ih =>
          intro j P hms hj hP H locs hM hS ls hl
          have ih30 := ih
          clear ih
          refine lv_iload_n hx hb dX7_restore_30 rfl (lv_at hl 0 rfl) ?_
          refine x_sipush hx hb dX7_restore_31 (by decide +kernel) ?_
          refine x_icmp_ge (tgt := 61) hx hb dX7_restore_34 (by decide) (by omega) (by omega) (fun c_34 => ?_) (fun c_34 => ?_)
          · refine lv_aload_n hx hb dX7_restore_61 rfl (lv_at hl 1 rfl) ?_
            refine x_bipush hx hb dX7_restore_62 (by decide +kernel) ?_
            refine x_callVR (As := [.int (zI 7)]) (rest := []) S hK (c_X7_num l D cs a P (remP σ pa kn) sl sv pd (remK kn) ln 7 (by omega)) (cwV 1 hts gX7_restore_X7_num rfl rfl rfl (by decide +kernel) ⟨(Nat.le_of_ble_eq_true rfl), (Nat.le_of_ble_eq_true rfl)⟩) (x_rc hK (mAt_0 hM) rfl) hM rfl hl.1 (Nat.le_of_ble_eq_true rfl) dX7_restore_64 ⟨Nat.zero_le _, Nat.zero_le _⟩ ?_
            exact x_iretM hx hb hr hlocks (by rw [hP]; exact cpN_in (by omega)) (mAt_cong hM (by rw [hP, show j = 138 by omega]) rfl rfl rfl rfl rfl rfl) hS dX7_restore_67
          · refine lv_aload_n hx hb dX7_restore_37 rfl (lv_at hl 1 rfl) ?_
            refine m_g_s S hin7 hK hM (hts (.fieldLink RX7 7 "EnergyDiscsModel" "s" "[J") (by decide +kernel)) dX7_restore_38 ?_
            refine lv_iload_n hx hb dX7_restore_41 rfl (lv_at hl 0 rfl) ?_
            refine lv_aload_n hx hb dX7_restore_42 rfl (lv_at hl 1 rfl) ?_
            refine m_g_slots S hin7 hK hM (hts (.fieldLink RX7 16 "EnergyDiscsModel" "slots" "[J") (by decide +kernel)) dX7_restore_43 ?_
            refine x_sipush hx hb dX7_restore_46 (by decide +kernel) ?_
            refine lv_iload_n hx hb dX7_restore_49 rfl (lv_at hl 2 rfl) ?_
            refine x_imul hx hb dX7_restore_50 ?_
            refine lv_iload_n hx hb dX7_restore_51 rfl (lv_at hl 0 rfl) ?_
            refine x_iadd hx hb dX7_restore_52 ?_
            refine m_l_slots S hK hM (by omega) dX7_restore_53 ?_
            refine m_s_s S hK hM hI hS (by omega) dX7_restore_54 (fun H locs hM hS => ?_)
            refine x_iinc (x := j) (lv' := [(2, .int (zI (j + 1))), (0, .ref (a 0)), (1, .int (zI k))]) hx hb dX7_restore_55 hl (k := 0) rfl (by decide) rfl (fun ls hl => ?_)
            refine lv_goto (tgt := 30) hx hb dX7_restore_58 (by decide) ?_
            exact ih30 (j + 1) (up P j (sl ((138 * k) + j))) (by omega) (by omega) (by subst hP; exact cpN_step (by omega) rfl hj.1) H locs hM hS ls (lv_sub hl [0, 1, 2] rfl)
      exact lp30 ((138 - (0 : Int)).toNat + 1) 0 σ (Nat.lt_succ_self _) (by omega) (by exact (cpN_0 _ _ _).symm) H locs hM hS ls (lv_sub hl [0, 1, 2] rfl)
    · exfalso; omega
  · exact absurd hk c_6
