set_option maxHeartbeats 4000000 in
set_option maxRecDepth 100000 in
theorem c_X5_init (l : Launch) (D : va_G) (cs : Nat → ClassId) (b : Nat) (N : Nat) (hN : N ≤ b) : kI D cs N l yX5_init wsX5_init ({ frames := 1, cells := 1, slots := 80, locals := 12 } : Room) [.ref b] (fun H => nAt D b 1 (fun _ => .inr (4, pdD)) H) (fun H => nAt D b 2 (pcell cs (sq b) (fun _ => 0) 0) H) (nA b) 1 80 := by
  refine Met.ofW (cc := cX5_init) (maxL := 1) (ret := none) (by decide) rfl ?_
  intro p e s m args below meth c s₁ B hml hv
  obtain ⟨rfl, hK, hZ, hO, hn⟩ := hv
  have hx := B.exec
  have hb := B.bytes
  have hr := B.returns
  have hnm : meth.name = "<init>" := (name_of_methodNamed B.named B.method).1
  have hts := atoms_spec (ws := wsX5_init) B.pre
  have hown : s.vm.findClass RX5 = some m.cls := findClass_of_methodNamed B.named
  have hlocks := B.notSynchronized
  have S : CallFix p m c cX5_init 1 s (([.ref b] : List Value)).toArray wsX5_init RX5 := ⟨hx, hb, hml, hown, hts⟩
  have hS : va_S (nA b) s.heap s.heap [] := va_S.rf
  have hz0 : (s.heap.size : Int) = b + 1 := hn.1
  have hl := lv_entry ([.ref b]) (n := 1) (Nat.le_of_ble_eq_true rfl)
  rw [lg_entry_eq]
  generalize (lg_sl ([.ref b]) ++ List.replicate (1 - (lg_sl ([.ref b])).length) Slot.unset).toArray = ls at hl ⊢
  have hl : lv_has ls 1 [(0, .ref b)] := hl
  have hin5 : ∀ w ∈ wsX50, w ∈ wsX5_init := by decide +kernel
  refine lv_aload_n hx hb dX5_init_0 rfl (lv_at hl 0 rfl) ?_
  refine W.objInit hx hb S.2.2.2.1 (hts (.methodLink RX5 3 objectInit) (by decide +kernel)) (hts (.instanceMethod objectInit) (by decide +kernel)) (hts (.code objectInit ⟨#[0xb1]⟩ 1 none) (by decide +kernel)) rfl (by rw [S.2.2.1]; exact hl.1) rfl dX5_init_1 (Nat.le_of_ble_eq_true rfl) (Nat.le_of_ble_eq_true rfl) ?_
  refine lv_aload_n hx hb dX5_init_4 rfl (lv_at hl 0 rfl) ?_
  refine x_bipush hx hb dX5_init_5 (by decide +kernel) ?_
  refine n_newC (N := 80) S (hts (.arrayClass .char) (by decide +kernel)) hK rfl (by decide) hn hS (Nat.le_of_ble_eq_true rfl) (Nat.le_of_ble_eq_true rfl) dX5_init_7 (fun H hn hS => ?_)
  refine n_putF (C := RX5) (T := TX5) (N := 2) (ci := 4) (i := 0) S hin5 tyX5 tyX5_ok nmX5 hK rfl 0 (by decide) (hts (.fieldLink RX5 9 "EnergyDiscs$Pad" "signs" "[C") (by decide +kernel)) rfl hnm rfl rfl rfl (by omega) ((upE_n (by omega))) (Nat.le_of_ble_eq_true rfl) hn hS dX5_init_9 (fun H locs hn hS => ?_)
  refine lv_aload_n hx hb dX5_init_12 rfl (lv_at hl 0 rfl) ?_
  refine x_iconst hx hb dX5_init_13 ?_
  refine n_put (C := RX5) (T := TX5) (N := 2) (ci := 4) (i := 0) S hin5 tyX5 tyX5_ok nmX5 hK rfl 1 (by decide) (hts (.fieldLink RX5 15 "EnergyDiscs$Pad" "length" "I") (by decide +kernel)) rfl rfl rfl (by omega) (upE_s _ _ _) (Nat.le_of_ble_eq_true rfl) hn hS dX5_init_14 (fun H locs hn hS => ?_)
  refine x_vretI (mc := 1) (ms := 80) hx hb hr hlocks (nAt_cong hn (fun i h0 h1 => ?_)) hS (Nat.le_refl _) (Nat.le_refl _) dX5_init_17
  rcases (show i = 0 ∨ i = 1 by omega) with h | h <;> subst h
  · rfl
  · rfl
def sM0 : Int → Int := up (up (up (up (up (up (fun _ => 0) 0 15) 1 2) 2 1) 3 1000) 4 9) 5 5