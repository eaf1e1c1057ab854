set_option maxHeartbeats 4000000 in
set_option maxRecDepth 100000 in
theorem c_X4_init (l : Launch) (D : va_G) (cs : Nat → ClassId) (b : Nat) (f : Int → Int)  : kM D cs l yX4_init wsX4_init ({ frames := 1, cells := 0, slots := 0, locals := 22 } : Room) [.ref b] (fun H => tAt D b f H) none (fun H => tAt D b (bgM (-6) 0) H) (oneC b) := by
  refine Met.ofW (cc := cX4_init) (maxL := 1) (ret := none) (by decide) rfl ?_
  intro p e s m args below meth c s₁ B hml hv
  obtain ⟨rfl, hK, hT⟩ := hv
  have hx := B.exec
  have hb := B.bytes
  have hr := B.returns
  have hts := atoms_spec (ws := wsX4_init) B.pre
  have hown : s.vm.findClass RX4 = some m.cls := findClass_of_methodNamed B.named
  have hlocks := B.notSynchronized
  have S : CallFix p m c cX4_init 1 s (([.ref b] : List Value)).toArray wsX4_init RX4 := ⟨hx, hb, hml, hown, hts⟩
  have hS : va_S (oneC b) s.heap s.heap [] := va_S.rf
  have hl := lv_entry ([.ref b]) (n := 1) (Nat.le_of_ble_eq_true rfl)
  rw [lg_entry_eq]
  generalize (lg_sl ([.ref b]) ++ List.replicate (1 - (lg_sl ([.ref b])).length) Slot.unset).toArray = ls at hl ⊢
  have hl : lv_has ls 1 [(0, .ref b)] := hl
  refine lv_aload_n hx hb dX4_init_0 rfl (lv_at hl 0 rfl) ?_
  refine W.objInit hx hb S.2.2.2.1 (hts (.methodLink RX4 3 objectInit) (by decide +kernel)) (hts (.instanceMethod objectInit) (by decide +kernel)) (hts (.code objectInit ⟨#[0xb1]⟩ 1 none) (by decide +kernel)) rfl (by rw [S.2.2.1]; exact hl.1) rfl dX4_init_1 (Nat.le_of_ble_eq_true rfl) (Nat.le_of_ble_eq_true rfl) ?_
  refine lv_aload_n hx hb dX4_init_4 rfl (lv_at hl 0 rfl) ?_
  refine x_bipush hx hb dX4_init_5 (by decide +kernel) ?_
  refine x_iconst hx hb dX4_init_7 ?_
  refine x_callVMn (As := [.int (zI ((-6))), .int (zI 0)]) (rest := []) S hK (c_X4_begin l D cs b f ((-6)) 0 ) (cwV 2 hts gX4_init_X4_begin rfl rfl rfl (by decide +kernel) ⟨(Nat.le_of_ble_eq_true rfl), (Nat.le_of_ble_eq_true rfl)⟩) (x_rc hK hT rfl) hT rfl hl.1 (Nat.le_of_ble_eq_true rfl) dX4_init_8 ⟨Nat.zero_le _, Nat.zero_le _⟩ hS (fun q hq => hq) (fun H locs hB hF hS => ?_)
  have hT : tAt D b (bgM ((-6)) 0) H := hB
  exact x_vretM hx hb hr hlocks (tAt_cong hT (by rfl)) hS dX4_init_11
set_option maxHeartbeats 4000000 in
set_option maxRecDepth 100000 in
theorem c_X3_init (l : Launch) (D : va_G) (cs : Nat → ClassId) (b : Nat) (f : Int → Int)  : kM D cs l yX3_init wsX3_init ({ frames := 1, cells := 0, slots := 0, locals := 22 } : Room) [.ref b] (fun H => lAt D b f H) none (fun H => lAt D b (bgL 0 0) H) (oneC b) := by
  refine Met.ofW (cc := cX3_init) (maxL := 1) (ret := none) (by decide) rfl ?_
  intro p e s m args below meth c s₁ B hml hv
  obtain ⟨rfl, hK, hO⟩ := hv
  have hx := B.exec
  have hb := B.bytes
  have hr := B.returns
  have hts := atoms_spec (ws := wsX3_init) B.pre
  have hown : s.vm.findClass RX3 = some m.cls := findClass_of_methodNamed B.named
  have hlocks := B.notSynchronized
  have S : CallFix p m c cX3_init 1 s (([.ref b] : List Value)).toArray wsX3_init RX3 := ⟨hx, hb, hml, hown, hts⟩
  have hS : va_S (oneC b) s.heap s.heap [] := va_S.rf
  have hl := lv_entry ([.ref b]) (n := 1) (Nat.le_of_ble_eq_true rfl)
  rw [lg_entry_eq]
  generalize (lg_sl ([.ref b]) ++ List.replicate (1 - (lg_sl ([.ref b])).length) Slot.unset).toArray = ls at hl ⊢
  have hl : lv_has ls 1 [(0, .ref b)] := hl
  refine lv_aload_n hx hb dX3_init_0 rfl (lv_at hl 0 rfl) ?_
  refine W.objInit hx hb S.2.2.2.1 (hts (.methodLink RX3 1 objectInit) (by decide +kernel)) (hts (.instanceMethod objectInit) (by decide +kernel)) (hts (.code objectInit ⟨#[0xb1]⟩ 1 none) (by decide +kernel)) rfl (by rw [S.2.2.1]; exact hl.1) rfl dX3_init_1 (Nat.le_of_ble_eq_true rfl) (Nat.le_of_ble_eq_true rfl) ?_
  refine lv_aload_n hx hb dX3_init_4 rfl (lv_at hl 0 rfl) ?_
  refine x_iconst hx hb dX3_init_5 ?_
  refine x_iconst hx hb dX3_init_6 ?_
  refine x_callVMn (As := [.int (zI 0), .int (zI 0)]) (rest := []) S hK (c_X3_begin l D cs b f 0 0 ) (cwV 2 hts gX3_init_X3_begin rfl rfl rfl (by decide +kernel) ⟨(Nat.le_of_ble_eq_true rfl), (Nat.le_of_ble_eq_true rfl)⟩) (x_rc hK hO rfl) hO rfl hl.1 (Nat.le_of_ble_eq_true rfl) dX3_init_7 ⟨Nat.zero_le _, Nat.zero_le _⟩ hS (fun q hq => hq) (fun H locs hB hF hS => ?_)
  have hO : lAt D b (bgL 0 0) H := hB
  exact x_vretM hx hb hr hlocks hO hS dX3_init_10
