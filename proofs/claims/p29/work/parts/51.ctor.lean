/-! contracts of constructors, which make cells -/
def kO (U : State) : Prop := va_AO RX4 U ∧ va_AO RX3 U ∧ va_AO RX2 U
theorem kO.warm {s U : State} (hW : s.WarmedH U.vm) (h : kO s) : kO U := ⟨va_AO.moved hW.alike h.1, va_AO.moved hW.alike h.2.1, va_AO.moved hW.alike h.2.2⟩
def kWi (D : va_G) (cs : Nat → ClassId) (N : Nat) (P : Heap → Prop) : State → Prop := fun U => kK D cs U ∧ kZ N U U.heap ∧ kO U ∧ P U.heap
abbrev kI (D : va_G) (cs : Nat → ClassId) (N : Nat) (l : Launch) (y : MethodName) (ws : List Cond) (rm : Room) (as : List Value) (P : Heap → Prop) (B : Heap → Prop) (A : Nat → Prop) (mc ms : Nat) : Prop := Met l y ws rm (va_Pc as (kWi D cs N P)) (kQ none B A) mc ms A
theorem kWi_blind {D : va_G} {cs : Nat → ClassId} {N : Nat} {P : Heap → Prop} {as : List Value} : FrameBlind (va_Pc as (kWi D cs N P)) := by
  intro a U g mk h
  obtain ⟨h1, h2, h3, h5, h4⟩ := h
  obtain ⟨⟨w0, w1, w2⟩, t0, t1, t2, ⟨g0, k0⟩, ⟨g1, k1⟩, g2, k2⟩ := h3
  exact ⟨h1, ⟨va_K.moved (u := U) (U := U.calling g mk a) (Vm.Alike.refl U.vm) h2.1, va_Nw.same rfl rfl h2.2.1, va_Nw.same rfl rfl h2.2.2⟩, ⟨⟨va_Nw.same rfl rfl w0, va_Nw.same rfl rfl w1, va_Nw.same rfl rfl w2⟩, t0, t1, t2, ⟨va_Z.moved (u := U) (U := U.calling g mk a) (Vm.Alike.refl U.vm) g0, va_T.moved (u := U) (U := U.calling g mk a) (Vm.Alike.refl U.vm) k0⟩, ⟨va_Z.moved (u := U) (U := U.calling g mk a) (Vm.Alike.refl U.vm) g1, va_T.moved (u := U) (U := U.calling g mk a) (Vm.Alike.refl U.vm) k1⟩, va_Z.moved (u := U) (U := U.calling g mk a) (Vm.Alike.refl U.vm) g2, va_T.moved (u := U) (U := U.calling g mk a) (Vm.Alike.refl U.vm) k2⟩, ⟨va_AO.moved (u := U) (U := U.calling g mk a) (Vm.Alike.refl U.vm) h5.1, va_AO.moved (u := U) (U := U.calling g mk a) (Vm.Alike.refl U.vm) h5.2.1, va_AO.moved (u := U) (U := U.calling g mk a) (Vm.Alike.refl U.vm) h5.2.2⟩, h4⟩
theorem kWi_pre {D : va_G} {cs : Nat → ClassId} {N : Nat} {s : State} {H : Heap} {P : Heap → Prop} {as : List Value} (hK : kK D cs s) (hZ : kZ N s H) (hO : kO s) (hP : P H) : ∀ U : State, U.heap = H → s.WarmedH U.vm → va_Pc as (kWi D cs N P) as.toArray U := fun U hU hW => ⟨rfl, hK.warm hW, by rw [hU]; exact hZ.warm hW, hO.warm hW, by rw [hU]; exact hP⟩
section XI
variable {p : Program} {l : Launch} {e : Env} {R : Room} {s : State} {m : MethodId} {args : Array Value} {below : List Frame} {meth : Method} {c : Code} {H : Heap} {locs : List Loc} {cells slots : Nat} {Q : State → Prop} {cc : ByteArray} {pc : Nat} {ls : Array Slot} {rest : List Value} {D : va_G} {cs : Nat → ClassId}
variable {y : MethodName} {bytes : ByteArray} {maxL nL n index N mc ms : Nat} {ws : List Cond} {rm : Room} {Ts : List Cond} {own : String} {b : Nat} {As : List Value} {P : Heap → Prop} {B : Heap → Prop} {A A0 : Nat → Prop} {H0 : Heap}
theorem x_retI {a : Array Value} {st0 : List Value} (hr : va_Run p l e R s m args below meth c H locs cells slots mc ms (F0 m pc ls st0) rest (kQ none B A a) A) (hS : va_S A0 H0 H locs) (hA : ∀ q, A q → A0 q)
    (kk : ∀ (H1 : Heap) (locs1 : List Loc), B H1 → kF A H H1 → va_S A0 H0 H1 locs1 → W p l e R s m args below meth c H1 locs1 (cells + mc) (slots + ms) Q (F0 m (pc + 3) ls rest)) : W p l e R s m args below meth c H locs cells slots Q (F0 m pc ls st0) := by
  intro T hT X
  obtain ⟨v2, st₀, t, T', L, h0, X', hL, e1, e2, ⟨hv, hB, hz, hk⟩, st⟩ := hr T hT X
  cases hv
  rw [h0] at hz hk
  obtain ⟨t2, a1, b1⟩ := kk T'.heap (locs ++ L) (by rw [e1]; exact hB) ⟨by rw [e1]; exact hz, fun q h1 h2 => by rw [e1]; exact hk q h1 h2⟩
    ⟨Nat.le_trans hS.1 (by rw [e1]; exact hz), fun q h1 h2 => by rw [e1, hk q (Nat.lt_of_lt_of_le h1 hS.1) (fun z => h2 (hA q z))]; exact hS.2.1 q h1 h2, fun q hq => by
      rcases List.mem_append.mp hq with h | h
      · exact hS.2.2 q h
      · exact hA _ (hL q h)⟩ T' rfl X'
  exact ⟨t2, st t2 a1, b1⟩
theorem x_callI (S : CallFix p m c cc nL s args Ts own) (hK : kK D cs s) (hZ : kZ N s H) (hO : kO s) (hM : kI D cs N l y ws rm (.ref b :: As) P B A mc ms) (cw : CallB R s args own index y bytes maxL none ws rm mc ms n ∧ y.name = "<init>" ∧ (Cond.instanceMethod y).before args s = true) (hP : P H) (hn : As.length = n) (hsize : ls.size = nL) (hW : (rest.map fun v => v.category).sum ≤ 8) (d : decode cc pc = .ok (.invokespecial index, 3)) (hf : cells + mc ≤ R.cells ∧ slots + ms ≤ R.slots) (hS : va_S A0 H0 H locs) (hA : ∀ q, A q → A0 q)
    (kk : ∀ (H1 : Heap) (locs1 : List Loc), B H1 → kF A H H1 → va_S A0 H0 H1 locs1 → W p l e R s m args below meth c H1 locs1 (cells + mc) (slots + ms) Q (F0 m (pc + 3) ls rest)) : W p l e R s m args below meth c H locs cells slots Q (F0 m pc ls (As.reverse ++ .ref b :: rest)) :=
  x_retI (va_runI S hM cw ⟨kWi_blind, kWi_pre hK hZ hO hP⟩ rfl hn hsize rfl (lv_room hW) d hf) hS hA kk
theorem x_callI0 (S : CallFix p m c cc nL s args Ts own) (hK : kK D cs s) (hM : kM D cs l y ws rm (.ref b :: As) P none B A) (cw : CallB R s args own index y bytes maxL none ws rm 0 0 n ∧ y.name = "<init>" ∧ (Cond.instanceMethod y).before args s = true) (hP : P H) (hn : As.length = n) (hsize : ls.size = nL) (hW : (rest.map fun v => v.category).sum ≤ 8) (d : decode cc pc = .ok (.invokespecial index, 3)) (hf : cells ≤ R.cells ∧ slots ≤ R.slots) (hS : va_S A0 H0 H locs) (hA : ∀ q, A q → A0 q)
    (kk : ∀ (H1 : Heap) (locs1 : List Loc), B H1 → kF A H H1 → va_S A0 H0 H1 locs1 → W p l e R s m args below meth c H1 locs1 cells slots Q (F0 m (pc + 3) ls rest)) : W p l e R s m args below meth c H locs cells slots Q (F0 m pc ls (As.reverse ++ .ref b :: rest)) :=
  x_retI (mc := 0) (ms := 0) (va_runI S hM cw ⟨kW_blind, kW_pre hK hP⟩ rfl hn hsize rfl (lv_room hW) d hf) hS hA kk
theorem x_vretI (hx : p.tables.exec = Jvm.exec) (hb : c.code = cc) (hr : meth.sig.returnType = none) (hlocks : meth.locks = false) (hB : B H) (hS : va_S A s.heap H locs) (hc : cells ≤ mc) (hs : slots ≤ ms) (d : decode cc pc = .ok (.return_, 1)) : W p l e R s m args below meth c H locs cells slots (MQ below (kQ none B A) args s mc ms A) (F0 m pc ls []) :=
  W.widen hc hs (W.vret hx hb hr (fun t ht _ => ⟨rfl, by rw [ht]; exact hB, hS.F ht⟩) hS.2.2 d hlocks)
end XI
