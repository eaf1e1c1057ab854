section NS
variable {p : Program} {l : Launch} {e : Env} {R : Room} {s : State} {m : MethodId} {args : Array Value} {below : List Frame} {meth : Method} {c : Code} {H : Heap} {locs : List Loc} {cells slots : Nat} {Q : State → Prop} {cc : ByteArray} {pc : Nat} {ls : Array Slot} {rest : List Value} {D : va_G} {cs : Nat → ClassId}
variable {Ts : List Cond} {own : String} {nL index : Nat} {H0 : Heap} {b : Nat} {n : Int} {cell : Int → va_E} {A : Nat → Prop}
/-- an object made while a larger frame is kept -/
theorem n_newS (S : CallFix p m c cc nL s args Ts own) {C : String} {T : u_T} {N ci : Nat} (hin : ∀ w ∈ u_ws C T N, w ∈ Ts) (ty : Nat → FieldType) (hty : ∀ k, k < N → parseFieldDescriptor (T k).2.2.1 = some (ty k)) (hcl : (Cond.classLink own index C).before args s = true) (hinst : (Cond.instantiable C N).before args s = true) (hini : (Cond.initialized C).before args s = true) (hK : kK D cs s) (hc : vwCl[ci]? = some (C, T, N)) {fs : List Value} (hfs : ∀ j, j < N → defaultValue (ty j) = vp_V fs j) (hn : nAt D b n cell H) (hS : va_S A H0 H locs) (hA : ∀ q, nA b q → A q) (hcells : cells + 1 ≤ R.cells) (hslots : slots + N ≤ R.slots) (d : decode cc pc = .ok (.new index, 3))
    (kk : ∀ H1 : Heap, nAt D b (n + 1) (upE cell n (.inr (ci, fs))) H1 → (∀ q : Nat, q < H.size → H1[q]? = H[q]?) → va_S A H0 H1 locs → W p l e R s m args below meth c H1 locs (cells + 1) (slots + N) Q (F0 m (pc + 3) ls (.ref (sq b n) :: rest))) : W p l e R s m args below meth c H locs cells slots Q (F0 m pc ls rest) := by
  have hKn := hK.1.1 ci _ hc
  have ez : H.size = sq b n := by have := hn.1; have := hn.2.1; unfold sq; omega
  refine W.newcK S.1 S.2.1 S.2.2.2.1 hcl hinst hini rfl d hcells hslots hKn.2.1 ez fun H1 kC hkC e1 z1 o1 => ?_
  rw [← ez] at z1 o1
  exact kk H1 (nAt_push hn z1 o1 ⟨_, hc, (u_born ty S.2.2.2.2 hin hKn hkC e1 hty).to hfs⟩) o1 ⟨Nat.le_trans hS.1 (by omega), fun q x y => (o1 q (Nat.lt_of_lt_of_le x hS.1)).trans (hS.2.1 q x y), hS.2.2⟩
end NS
set_option maxHeartbeats 4000000 in
set_option maxRecDepth 100000 in
theorem whole_start {p : Program} {e : Env} {s : State} {m : MethodId} {below : List Frame} {meth : Method} {c : Code} (l : Launch) (hflags : l.flags = flags0) {b L : Nat} {xs : Nat → Int32} (hL : L ≤ 2048) (C0 : lw_At p s m meth c b L xs) : W p l e room_1 s m #[Value.ref b] below meth c s.heap [] 0 0 (lw_Z below #[Value.ref b] s) (entryFrame m ([Value.ref b] : List Value).toArray 4) := by
  obtain ⟨hx, hb, hr, hml, hown, hts, hX, hbl, hlocks, hgv⟩ := id C0
  obtain ⟨D, cs, hK⟩ := kK_of hts
  have hZ := kZ_of hts hgv
  have hO := kO_of hts
  have hts2 : ∀ w ∈ wsL_law, w.before #[Value.ref b] s = true := fun w hw => hts w (wsL_law_in w hw)
  have S : CallFix p m c cL_law 4 s #[Value.ref b] wsL_law RL := ⟨hx, hb, hml, hown, hts2⟩
  obtain ⟨b0, hb0⟩ : ∃ z, z = s.heap.size := ⟨_, rfl⟩
  rw [← hb0] at hZ
  have hbl0 := hbl
  rw [← hb0] at hbl0
  have hA0 : ∀ q, nA b0 q → b0 ≤ q := fun q h => h
  have hn : nAt D b0 0 (fun _ => .inr (5, edD)) s.heap := ⟨by rw [← hb0]; omega, by decide, fun i h0 h1 => by omega⟩
  have hS : va_S (nA b0) s.heap s.heap [] := va_S.rf
  have hl := lv_entry ([.ref b]) (n := 4) (Nat.le_of_ble_eq_true rfl)
  rw [lg_entry_eq]
  generalize (lg_sl ([.ref b]) ++ List.replicate (4 - (lg_sl ([.ref b])).length) Slot.unset).toArray = ls at hl ⊢
  have hl : lv_has ls 4 [(0, .ref b)] := hl
  refine n_new (C := RX6) (T := TX6) (N := 6) (ci := 5) S inlX6 tyX6 tyX6_ok (hts2 (.classLink RL 7 RX6) (by decide +kernel)) (hts2 (.instantiable RX6 6) (by decide +kernel)) (hts2 (.initialized RX6) (by decide +kernel)) hK rfl nwE hn hS (Nat.le_of_ble_eq_true rfl) (Nat.le_of_ble_eq_true rfl) dL_law_0 (fun H hn hS => ?_)
  refine lv_dup hx hb dL_law_3 rfl ?_
  have hP := nAt_last hn (by decide)
  rw [show sq b0 0 = b0 from rfl] at hP
  rw [show sq b0 0 = b0 from rfl]
  refine x_callI (As := []) (rest := [.ref b0]) S hK (kZ.keptS (A := nA b0) hZ hS hA0) hO (c_X6_init l D cs b0 b0 (Nat.le_refl _)) (cwI 0 hts2 gL_law_X6_init rfl rfl rfl (hts2 (.initialized RX6) (by decide +kernel)) (hts2 (.methodLink RL 9 yX6_init) (by decide +kernel)) (hts2 (.instanceMethod yX6_init) (by decide +kernel)) rfl (by decide +kernel) ⟨Nat.le_of_ble_eq_true rfl, Nat.le_of_ble_eq_true rfl⟩) hP rfl hl.1 (Nat.le_of_ble_eq_true rfl) dL_law_4 ⟨Nat.le_of_ble_eq_true rfl, Nat.le_of_ble_eq_true rfl⟩ hS (fun q hq => hq) (fun H locs hB hF hS => ?_)
  obtain ⟨hsz, hE⟩ := hB
  refine lv_astore_n (lv' := [(1, .ref b0), (0, .ref b)]) hx hb dL_law_7 rfl hl (by decide) rfl (fun ls hl => ?_)
  have hn2 : nAt D (b0 + 238) 0 (fun _ => .inr (6, moD)) H := ⟨by omega, by decide, fun i h0 h1 => by omega⟩
  have hS2 : va_S (nA (b0 + 238)) H H [] := va_S.rf
  refine n_newS (C := RX7) (T := TX7) (N := 7) (ci := 6) S inlX7 tyX7 tyX7_ok (hts2 (.classLink RL 10 RX7) (by decide +kernel)) (hts2 (.instantiable RX7 7) (by decide +kernel)) (hts2 (.initialized RX7) (by decide +kernel)) hK rfl nwO hn2 hS (fun q h => Nat.le_trans (Nat.le_add_right _ _) h) (Nat.le_of_ble_eq_true rfl) (Nat.le_of_ble_eq_true rfl) dL_law_8 (fun H1 hn o1 hS => ?_)
  have hE : eAt D cs (ea b0) hT0 (fun _ => hT0) (fun _ => hT0) (bgM (-6) 0) (fun _ => 0) 0 0 0 (fun _ => 0) H1 := fun i h0 h1 => va_at.kept (hE i h0 h1) (o1 _ (va_at.lt (hE i h0 h1)))
  refine lv_dup hx hb dL_law_11 rfl ?_
  have hP := nAt_last hn (by decide)
  rw [show sq (b0 + 238) 0 = b0 + 238 from rfl] at hP
  rw [show sq (b0 + 238) 0 = b0 + 238 from rfl]
  refine x_callI (As := []) (rest := [.ref (b0 + 238)]) S hK (kZ.keptS (A := nA b0) hZ hS hA0) hO (c_X7_init l D cs (b0 + 238) b0 (Nat.le_add_right _ _)) (cwI 0 hts2 gL_law_X7_init rfl rfl rfl (hts2 (.initialized RX7) (by decide +kernel)) (hts2 (.methodLink RL 12 yX7_init) (by decide +kernel)) (hts2 (.instanceMethod yX7_init) (by decide +kernel)) rfl (by decide +kernel) ⟨Nat.le_of_ble_eq_true rfl, Nat.le_of_ble_eq_true rfl⟩) hP rfl hl.1 (Nat.le_of_ble_eq_true rfl) dL_law_12 ⟨Nat.le_of_ble_eq_true rfl, Nat.le_of_ble_eq_true rfl⟩ hS (fun q hq => Nat.le_trans (Nat.le_add_right _ _) hq) (fun H locs hB hF hS => ?_)
  have hE : eAt D cs (ea b0) hT0 (fun _ => hT0) (fun _ => hT0) (bgM (-6) 0) (fun _ => 0) 0 0 0 (fun _ => 0) H := bAt_F hE hF (fun i h0 h1 z => by
    have q := ea_C (b := b0) (q := ea b0 i) ⟨i, h0, h1, rfl⟩
    have z2 : b0 + 238 ≤ ea b0 i := z
    omega)
  have hM : mAt D cs (sq (b0 + 238)) sM0 (fun _ => 0) (fun _ => 0) (fun _ => 0) (fun _ => 0) 0 0 H := hB.2.2
  refine lv_astore_n (lv' := [(2, .ref (b0 + 238)), (1, .ref b0), (0, .ref b)]) hx hb dL_law_15 rfl hl (by decide) rfl (fun ls hl => ?_)
  refine x_iconst hx hb dL_law_16 ?_
  refine lv_istore_n (lv' := [(3, .int (zI 0)), (2, .ref (b0 + 238)), (1, .ref b0), (0, .ref b)]) hx hb dL_law_17 rfl hl (by decide) rfl (fun ls hl => ?_)
  subst hb0
  have C1 : LC p l s m meth c b L xs D cs (ea s.heap.size) (sq (s.heap.size + 238)) := ⟨S, hK, hZ, hX, hbl, ⟨ea_I, fun i j h0 h1 h2 h3 h => sq_inj h0 h2 h⟩, fun q h => (ea_C h).1, fun q h => by
    obtain ⟨i, h0, h1, rfl⟩ := h
    unfold sq; omega, fun i j h0 h1 h2 h3 h => by
    have q := ea_C (b := s.heap.size) (q := ea s.heap.size i) ⟨i, h0, h1, rfl⟩
    rw [h] at q
    unfold sq at q
    omega, hL⟩
  exact law_loop C1 hr hlocks (L + 1) 0 (by omega) (by omega) H locs (LW_mono (N := 0) ⟨_, _, _, _, _, _, _, _, _, _, _, _, _, _, hM, hE, REL_0⟩ (by omega)) hS ls hl
