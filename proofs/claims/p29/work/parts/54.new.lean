/-! cells made one behind another from b on -/
def sq (b : Nat) : Int → Nat := fun i => b + i.toNat
def upE (g : Int → va_E) (i : Int) (e : va_E) : Int → va_E := fun k => if k = i then e else g k
theorem upE_s (g : Int → va_E) (i : Int) (e : va_E) : upE g i e i = e := if_pos rfl
theorem upE_n {g : Int → va_E} {i k : Int} {e : va_E} (h : k ≠ i) : upE g i e k = g k := if_neg h
def nAt (D : va_G) (b : Nat) (n : Int) (cell : Int → va_E) (H : Heap) : Prop := (H.size : Int) = b + n ∧ 0 ≤ n ∧ bAt D n (sq b) cell H
abbrev nA (b : Nat) : Nat → Prop := fun q => b ≤ q
theorem sq_inj {b : Nat} {i j : Int} (hi : 0 ≤ i) (hj : 0 ≤ j) (h : sq b i = sq b j) : i = j := by unfold sq at h; omega
theorem nAt_at {D : va_G} {b : Nat} {n : Int} {cell : Int → va_E} {H : Heap} (h : nAt D b n cell H) {i : Int} (h0 : 0 ≤ i) (h1 : i < n) : va_at D vwCl (sq b i, cell i) H := h.2.2 i h0 h1
theorem nAt_push {D : va_G} {b : Nat} {n : Int} {cell : Int → va_E} {e : va_E} {H H1 : Heap} (h : nAt D b n cell H) (z : H1.size = H.size + 1) (o : ∀ q : Nat, q < H.size → H1[q]? = H[q]?) (he : va_at D vwCl (sq b n, e) H1) : nAt D b (n + 1) (upE cell n e) H1 := by
  refine ⟨by rw [z]; have := h.1; omega, by have := h.2.1; omega, fun i h0 h1 => ?_⟩
  by_cases q : i = n
  · subst q; rw [upE_s]; exact he
  · rw [upE_n q]
    have := h.2.2 i h0 (by omega)
    exact va_at.kept this (o _ (va_at.lt this))
theorem nAt_set {D : va_G} {b : Nat} {n i : Int} {cell : Int → va_E} {e : va_E} {H H1 : Heap} (h : nAt D b n cell H) (h0 : 0 ≤ i) (h1 : i < n) (he : va_at D vwCl (sq b i, e) H1) (z : H1.size = H.size) (o : ∀ q : Nat, q ≠ sq b i → H1[q]? = H[q]?) : nAt D b n (upE cell i e) H1 := by
  refine ⟨by rw [z]; exact h.1, h.2.1, fun k a c => ?_⟩
  by_cases q : k = i
  · subst q; rw [upE_s]; exact he
  · rw [upE_n q]
    exact va_at.kept (h.2.2 k a c) (o _ (fun w => q (sq_inj a h0 w)))
theorem nAt_cong {D : va_G} {b : Nat} {n : Int} {cell cell2 : Int → va_E} {H : Heap} (h : nAt D b n cell H) (e : ∀ i : Int, 0 ≤ i → i < n → cell2 i = cell i) : nAt D b n cell2 H := ⟨h.1, h.2.1, fun i a c => by rw [e i a c]; exact h.2.2 i a c⟩
theorem nA_sq (b : Nat) (i : Int) : nA b (sq b i) := by unfold nA sq; omega
theorem nS_push {b : Nat} {H0 H H1 : Heap} {locs : List Loc} (h : va_S (nA b) H0 H locs) (z : H1.size = H.size + 1) (o : ∀ q : Nat, q < H.size → H1[q]? = H[q]?) : va_S (nA b) H0 H1 locs := ⟨Nat.le_trans h.1 (by omega), fun q a c => (o q (Nat.lt_of_lt_of_le a h.1)).trans (h.2.1 q a c), h.2.2⟩
section NW
variable {p : Program} {l : Launch} {e : Env} {R : Room} {s : State} {m : MethodId} {args : Array Value} {below : List Frame} {meth : Method} {c : Code} {H : Heap} {locs : List Loc} {cells slots : Nat} {Q : State → Prop} {cc : ByteArray} {pc : Nat} {ls : Array Slot} {rest : List Value} {D : va_G} {cs : Nat → ClassId}
variable {Ts : List Cond} {own : String} {nL index : Nat} {H0 : Heap} {b : Nat} {n : Int} {cell : Int → va_E}
theorem n_new (S : CallFix p m c cc nL s args Ts own) {C : String} {T : u_T} {N ci : Nat} (hin : ∀ w ∈ u_ws C T N, w ∈ Ts) (ty : Nat → FieldType) (hty : ∀ k, k < N → parseFieldDescriptor (T k).2.2.1 = some (ty k)) (hcl : (Cond.classLink own index C).before args s = true) (hinst : (Cond.instantiable C N).before args s = true) (hini : (Cond.initialized C).before args s = true) (hK : kK D cs s) (hc : vwCl[ci]? = some (C, T, N)) {fs : List Value} (hfs : ∀ j, j < N → defaultValue (ty j) = vp_V fs j) (hn : nAt D b n cell H) (hS : va_S (nA b) H0 H locs) (hcells : cells + 1 ≤ R.cells) (hslots : slots + N ≤ R.slots) (d : decode cc pc = .ok (.new index, 3))
    (kk : ∀ H1 : Heap, nAt D b (n + 1) (upE cell n (.inr (ci, fs))) H1 → va_S (nA b) H0 H1 locs → W p l e R s m args below meth c H1 locs (cells + 1) (slots + N) Q (F0 m (pc + 3) ls (.ref (sq b n) :: rest))) : W p l e R s m args below meth c H locs cells slots Q (F0 m pc ls rest) := by
  have hKn := hK.1.1 ci _ hc
  have ez : H.size = sq b n := by have := hn.1; have := hn.2.1; unfold sq; omega
  refine W.newcK S.1 S.2.1 S.2.2.2.1 hcl hinst hini rfl d hcells hslots hKn.2.1 ez fun H1 kC hkC e1 z1 o1 => ?_
  rw [← ez] at z1 o1
  exact kk H1 (nAt_push hn z1 o1 ⟨_, hc, (u_born ty S.2.2.2.2 hin hKn hkC e1 hty).to hfs⟩) (nS_push hS z1 o1)
theorem n_newI (S : CallFix p m c cc nL s args Ts own) (harr : (Cond.arrayClass .int).before args s = true) (hK : kK D cs s) {x : Int} {N : Nat} (hx : x = (N : Int)) (hN : N < 1000) (hn : nAt D b n cell H) (hS : va_S (nA b) H0 H locs) (hcells : cells + 1 ≤ R.cells) (hslots : slots + N ≤ R.slots) (d : decode cc pc = .ok (.newarray .int, 2))
    (kk : ∀ H1 : Heap, nAt D b (n + 1) (upE cell n (.inl (cs 0, (N, .inl fun _ => 0)))) H1 → va_S (nA b) H0 H1 locs → W p l e R s m args below meth c H1 locs (cells + 1) (slots + N) Q (F0 m (pc + 2) ls (.ref (sq b n) :: rest))) : W p l e R s m args below meth c H locs cells slots Q (F0 m pc ls (.int (zI x) :: rest)) := by
  subst hx
  have ez : H.size = sq b n := by have := hn.1; have := hn.2.1; unfold sq; omega
  refine va_newaK (atype := .int) (N := N) S.1 S.2.1 harr rfl d rfl (by rw [← zI_0, zI_lt (by omega) (by omega)]; omega) (by rw [zI_clamp (by omega)]; omega) (by show N * 4 ≤ 536870912; omega) hcells hslots ez fun H1 cA e1 z1 o1 hAr hNm => ?_
  rw [← ez] at z1 o1
  have hcA : cA = cs 0 := Option.some.inj (hNm.symm.trans (hK.1.2 0 _ rfl).2)
  subst hcA
  exact kk H1 (nAt_push hn z1 o1 e1) (nS_push hS z1 o1)
theorem n_newC (S : CallFix p m c cc nL s args Ts own) (harr : (Cond.arrayClass .char).before args s = true) (hK : kK D cs s) {x : Int} {N : Nat} (hx : x = (N : Int)) (hN : N < 1000) (hn : nAt D b n cell H) (hS : va_S (nA b) H0 H locs) (hcells : cells + 1 ≤ R.cells) (hslots : slots + N ≤ R.slots) (d : decode cc pc = .ok (.newarray .char, 2))
    (kk : ∀ H1 : Heap, nAt D b (n + 1) (upE cell n (.inl (cs 3, (N, .inl fun _ => 0)))) H1 → va_S (nA b) H0 H1 locs → W p l e R s m args below meth c H1 locs (cells + 1) (slots + N) Q (F0 m (pc + 2) ls (.ref (sq b n) :: rest))) : W p l e R s m args below meth c H locs cells slots Q (F0 m pc ls (.int (zI x) :: rest)) := by
  subst hx
  have ez : H.size = sq b n := by have := hn.1; have := hn.2.1; unfold sq; omega
  refine va_newaK (atype := .char) (N := N) S.1 S.2.1 harr rfl d rfl (by rw [← zI_0, zI_lt (by omega) (by omega)]; omega) (by rw [zI_clamp (by omega)]; omega) (by show N * 2 ≤ 536870912; omega) hcells hslots ez fun H1 cA e1 z1 o1 hAr hNm => ?_
  rw [← ez] at z1 o1
  have hcA : cA = cs 3 := Option.some.inj (hNm.symm.trans (hK.1.2 3 _ rfl).2)
  subst hcA
  exact kk H1 (nAt_push hn z1 o1 e1) (nS_push hS z1 o1)
theorem n_newZ (S : CallFix p m c cc nL s args Ts own) (harr : (Cond.arrayClass .boolean).before args s = true) (hK : kK D cs s) {x : Int} {N : Nat} (hx : x = (N : Int)) (hN : N < 1000) (hn : nAt D b n cell H) (hS : va_S (nA b) H0 H locs) (hcells : cells + 1 ≤ R.cells) (hslots : slots + N ≤ R.slots) (d : decode cc pc = .ok (.newarray .boolean, 2))
    (kk : ∀ H1 : Heap, nAt D b (n + 1) (upE cell n (.inl (cs 2, (N, .inl fun _ => 0)))) H1 → va_S (nA b) H0 H1 locs → W p l e R s m args below meth c H1 locs (cells + 1) (slots + N) Q (F0 m (pc + 2) ls (.ref (sq b n) :: rest))) : W p l e R s m args below meth c H locs cells slots Q (F0 m pc ls (.int (zI x) :: rest)) := by
  subst hx
  have ez : H.size = sq b n := by have := hn.1; have := hn.2.1; unfold sq; omega
  refine va_newaK (atype := .boolean) (N := N) S.1 S.2.1 harr rfl d rfl (by rw [← zI_0, zI_lt (by omega) (by omega)]; omega) (by rw [zI_clamp (by omega)]; omega) (by show N * 1 ≤ 536870912; omega) hcells hslots ez fun H1 cA e1 z1 o1 hAr hNm => ?_
  rw [← ez] at z1 o1
  have hcA : cA = cs 2 := Option.some.inj (hNm.symm.trans (hK.1.2 2 _ rfl).2)
  subst hcA
  exact kk H1 (nAt_push hn z1 o1 e1) (nS_push hS z1 o1)
theorem n_newQ (S : CallFix p m c cc nL s args Ts own) {C : String} (j : Nat) (hj : (xT cs)[j]? = some (cs j, .object C)) (hclink : (Cond.classLink own index C).before args s = true) (hover : va_AO C s) (hK : kK D cs s) {x : Int} {N : Nat} (hx : x = (N : Int)) (hN : N < 1000) (hn : nAt D b n cell H) (hS : va_S (nA b) H0 H locs) (hcells : cells + 1 ≤ R.cells) (hslots : slots + N ≤ R.slots) (d : decode cc pc = .ok (.anewarray index, 3))
    (kk : ∀ H1 : Heap, nAt D b (n + 1) (upE cell n (.inl (cs j, (N, .inr (.inr (.inr (.inr fun _ => none))))))) H1 → va_S (nA b) H0 H1 locs → W p l e R s m args below meth c H1 locs (cells + 1) (slots + N) Q (F0 m (pc + 3) ls (.ref (sq b n) :: rest))) : W p l e R s m args below meth c H locs cells slots Q (F0 m pc ls (.int (zI x) :: rest)) := by
  subst hx
  have ez : H.size = sq b n := by have := hn.1; have := hn.2.1; unfold sq; omega
  have hcl : (zI (N : Int)).toNatClampNeg = N := by rw [zI_clamp (by omega)]; omega
  refine W.anew S.1 S.2.1 S.2.2.2.1 hclink (va_AO.use hover) rfl d rfl (by rw [← zI_0, zI_lt (by omega) (by omega)]; omega) (by rw [hcl]; omega) hcells (by rw [hcl]; exact hslots) fun cA kA comp f1 f2 f3 f4 => ?_
  rw [hcl]
  obtain ⟨kB, cB, -, -, -, g4⟩ := (hK.1.2 j _ hj).2
  have hcA : cA = cs j := Option.some.inj (f1.symm.trans g4)
  subst hcA
  generalize hH1 : H.push ({ cls := cs j, slots := Array.replicate N .null, vm := .none } : Cell) = H1
  have z1 : H1.size = H.size + 1 := by rw [← hH1, Array.size_push]
  have e1 : H1[H.size]? = some (arrV (cs j) N (fun _ => .null)) := by rw [← hH1, Array.getElem?_push_size, ← arrV_new]
  have o1 : ∀ q : Nat, q < H.size → H1[q]? = H[q]? := fun q hq => by rw [← hH1, Array.getElem?_push, if_neg (Nat.ne_of_lt hq)]
  rw [ez] at e1 ⊢
  exact kk H1 (nAt_push hn z1 o1 e1) (nS_push hS z1 o1)
theorem n_putF (S : CallFix p m c cc nL s args Ts own) {C : String} {T : u_T} {N ci : Nat} (hin : ∀ w ∈ u_ws C T N, w ∈ Ts) (ty0 : Nat → FieldType) (hty : ∀ k, k < N → parseFieldDescriptor (T k).2.2.1 = some (ty0 k)) (hnm : ∀ a, a < N → ∀ b, b < N → a ≠ b → (T a).2.1 ≠ (T b).2.1) (hK : kK D cs s) (hc : vwCl[ci]? = some (C, T, N)) (k : Nat) (hk : k < N) (hlink : (Cond.fieldLink own index (T k).1 (T k).2.1 (T k).2.2.1).before args s = true) (hfin : (T k).2.2.2 = true) (hin2 : meth.name = "<init>") (hdecl : (T k).1 = own) {v : Value} (hnr : narrow (ty0 k) v = v) (hfit : fits (ty0 k) v = true) {i : Int} (hi : 0 ≤ i ∧ i < n) {fs : List Value} (hce : cell i = .inr (ci, fs)) (hl : k < fs.length) (hn : nAt D b n cell H) (hS : va_S (nA b) H0 H locs) (d : decode cc pc = .ok (.putfield index, 3))
    (kk : ∀ (H1 : Heap) (locs1 : List Loc), nAt D b n (upE cell i (.inr (ci, fs.set k v))) H1 → va_S (nA b) H0 H1 locs1 → W p l e R s m args below meth c H1 locs1 cells slots Q (F0 m (pc + 3) ls rest)) : W p l e R s m args below meth c H locs cells slots Q (F0 m pc ls (v :: .ref (sq b i) :: rest)) :=
  x_putF S.1 S.2.1 S.2.2.2.2 hin ty0 hty hnm S.2.2.2.1 hK (by have := nAt_at hn hi.1 hi.2; rw [hce] at this; exact this) hc k hk hlink hfin hin2 hdecl hnr hfit hl d (fun H1 j e z oq => kk H1 _ (nAt_set hn hi.1 hi.2 e z oq) (hS.put z oq (nA_sq b i)))
theorem n_put (S : CallFix p m c cc nL s args Ts own) {C : String} {T : u_T} {N ci : Nat} (hin : ∀ w ∈ u_ws C T N, w ∈ Ts) (ty0 : Nat → FieldType) (hty : ∀ k, k < N → parseFieldDescriptor (T k).2.2.1 = some (ty0 k)) (hnm : ∀ a, a < N → ∀ b, b < N → a ≠ b → (T a).2.1 ≠ (T b).2.1) (hK : kK D cs s) (hc : vwCl[ci]? = some (C, T, N)) (k : Nat) (hk : k < N) (hlink : (Cond.fieldLink own index (T k).1 (T k).2.1 (T k).2.2.1).before args s = true) (hfin : (T k).2.2.2 = false) {v : Value} (hnr : narrow (ty0 k) v = v) (hfit : fits (ty0 k) v = true) {i : Int} (hi : 0 ≤ i ∧ i < n) {fs : List Value} (hce : cell i = .inr (ci, fs)) (hl : k < fs.length) (hn : nAt D b n cell H) (hS : va_S (nA b) H0 H locs) (d : decode cc pc = .ok (.putfield index, 3))
    (kk : ∀ (H1 : Heap) (locs1 : List Loc), nAt D b n (upE cell i (.inr (ci, fs.set k v))) H1 → va_S (nA b) H0 H1 locs1 → W p l e R s m args below meth c H1 locs1 cells slots Q (F0 m (pc + 3) ls rest)) : W p l e R s m args below meth c H locs cells slots Q (F0 m pc ls (v :: .ref (sq b i) :: rest)) :=
  x_put S.1 S.2.1 S.2.2.2.2 hin ty0 hty hnm S.2.2.2.1 hK (by have := nAt_at hn hi.1 hi.2; rw [hce] at this; exact this) hc k hk hlink hfin hnr hfit hl d (fun H1 j e z oq => kk H1 _ (nAt_set hn hi.1 hi.2 e z oq) (hS.put z oq (nA_sq b i)))
theorem n_get (S : CallFix p m c cc nL s args Ts own) {C : String} {T : u_T} {N ci : Nat} (hin : ∀ w ∈ u_ws C T N, w ∈ Ts) (hK : kK D cs s) (hc : vwCl[ci]? = some (C, T, N)) (k : Nat) (hk : k < N) (hlink : (Cond.fieldLink own index (T k).1 (T k).2.1 (T k).2.2.1).before args s = true) {i : Int} (hi : 0 ≤ i ∧ i < n) {fs : List Value} (hce : cell i = .inr (ci, fs)) {v : Value} (hv : fs[k]? = some v) (hn : nAt D b n cell H) (d : decode cc pc = .ok (.getfield index, 3)) (kk : W p l e R s m args below meth c H locs cells slots Q (F0 m (pc + 3) ls (v :: rest))) : W p l e R s m args below meth c H locs cells slots Q (F0 m pc ls (.ref (sq b i) :: rest)) :=
  x_get S.1 S.2.1 S.2.2.2.2 hin S.2.2.2.1 hK (by have := nAt_at hn hi.1 hi.2; rw [hce] at this; exact this) hc k hk hlink hv d kk
theorem n_aast (S : CallFix p m c cc nL s args Ts own) (hK : kK D cs s) {C : String} {T : u_T} {N ci : Nat} (j : Nat) (hj : (xT cs)[j]? = some (cs j, .object C)) (hc : vwCl[ci]? = some (C, T, N)) {i t v : Int} {len : Nat} {f : Nat → Option Nat} {vs : List Value} (hi : 0 ≤ i ∧ i < n) (hci : cell i = .inl (cs j, (len, .inr (.inr (.inr (.inr f)))))) (hv : 0 ≤ v ∧ v < n) (hcv : cell v = .inr (ci, vs)) (ht : 0 ≤ t ∧ t < len) (hlen : len < 1000) (hn : nAt D b n cell H) (hS : va_S (nA b) H0 H locs) (d : decode cc pc = .ok (.aastore, 1))
    (kk : ∀ (H1 : Heap) (locs1 : List Loc), nAt D b n (upE cell i (.inl (cs j, (len, .inr (.inr (.inr (.inr (va_up f t.toNat (some (sq b v))))))))))  H1 → va_S (nA b) H0 H1 locs1 → W p l e R s m args below meth c H1 locs1 cells slots Q (F0 m (pc + 1) ls rest)) : W p l e R s m args below meth c H locs cells slots Q (F0 m pc ls (.ref (sq b v) :: .int (zI t) :: .ref (sq b i) :: rest)) := by
  have ha : H[sq b i]? = some (vp_cell (cs j) (len, .inr (.inr (.inr (.inr f))))) := by have := nAt_at hn hi.1 hi.2; rw [hci] at this; exact this
  have hvat := nAt_at hn hv.1 hv.2
  rw [hcv] at hvat
  obtain ⟨r', hr', cellV, g1, g2, g3, -⟩ := hvat
  have hcls := (hK.1.1 ci _ hc).2
  obtain ⟨kA, comp, k1, k2, k3, -⟩ := (hK.1.2 j _ hj).2
  have hcomp : comp = D.1 ci := Option.some.inj (k3.symm.trans hcls.1)
  subst hcomp
  obtain ⟨kC, hkC, -⟩ := hcls.2
  have hin := zI_in ht (by omega : len < 2147483648)
  have hlt : (zI t).toNatClampNeg < len := Nat.not_le.mp fun q => hin (Or.inr q)
  have h0 : ¬ zI t < 0 := fun q => hin (Or.inl q)
  refine W.aast S.1 S.2.1 ha (fun q h => by cases h) (fun h => by cases h) k1 k2 rfl hkC ⟨h0, by show _ < (arrV _ _ _).slots.size; rw [arrV_size]; exact hlt⟩ g1 (fun q h => by rw [g3] at h; cases h) (by rw [g2]; exact hkC) (by rw [g2]; exact va_assign hcls) rfl rfl d fun H1 e z oq => ?_
  refine kk H1 _ (nAt_set hn hi.1 hi.2 ?_ z oq) (hS.put z oq (nA_sq b i))
  show H1[sq b i]? = some (vp_cell _ _)
  rw [e, zI_clamp (by omega)]
  rw [vp_cell_q, vp_cell_q, arrV_store]
  congr 2
  funext q
  by_cases hq : q = t.toNat
  · subst hq
    simp [updV, va_up, va_rf]
  · simp [updV, va_up, hq]
end NW
