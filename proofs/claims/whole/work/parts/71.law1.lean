/-! the law: what stands at its loop's head -/
def sx (xs : Nat → Int32) (i : Int) : Int := (xs i.toNat).toInt
def LC (p : Program) (l : Launch) (s : State) (m : MethodId) (meth : Method) (c : Code) (b L : Nat) (xs : Nat → Int32) (D : va_G) (cs : Nat → ClassId) (a am : Int → Nat) : Prop :=
  CallFix p m c cL_law 4 s #[Value.ref b] wsL_law RL ∧ kK D cs s ∧ kZ s.heap.size s s.heap ∧ va_X b L xs s s.heap ∧ b < s.heap.size ∧ (eI a ∧ mI am) ∧ (∀ q, eC a q → s.heap.size ≤ q) ∧ (∀ q, mC am q → s.heap.size ≤ q) ∧ (∀ i j : Int, 0 ≤ i → i < 238 → 0 ≤ j → j < 6 → a i ≠ am j) ∧ L ≤ 2048
def LW (D : va_G) (cs : Nat → ClassId) (a am : Int → Nat) (N : Int) (H : Heap) : Prop :=
  ∃ (σ pa sl sv pd : Int → Int) (kn ln : Int) (τ : Int → Int) (ss hh : Int → Int → Int) (pr pd2 : Int → Int) (fr : Int) (su : Int → Int), mAt D cs am σ pa sl sv pd kn ln H ∧ eAt D cs a τ ss hh pr pd2 ln fr kn su H ∧ REL N σ pa sl sv pd kn ln τ ss hh pd2 ln fr kn su
section LA
variable {p : Program} {l : Launch} {e : Env} {R : Room} {s : State} {m : MethodId} {args : Array Value} {below : List Frame} {meth : Method} {c : Code} {H : Heap} {locs : List Loc} {cells slots : Nat} {Q : State → Prop} {cc : ByteArray} {pc : Nat} {ls : Array Slot} {rest : List Value} {D : va_G} {cs : Nat → ClassId}
variable {a am : Int → Nat} {b L : Nat} {xs : Nat → Int32} {N : Int} {A : Nat → Prop} {H0 : Heap}
theorem l_arg (hx : p.tables.exec = Jvm.exec) (hb : c.code = cc) (hX : va_X b L xs s H0) (hbl : b < H0.size) (hbA : ¬ A b) (hS : va_S A H0 H locs) {i : Int} (hi : 0 ≤ i ∧ i < L) (hL : L ≤ 2048) (d : decode cc pc = .ok (.iaload, 1)) (kk : W p l e R s m args below meth c H locs cells slots Q (F0 m (pc + 1) ls (.int (zI (sx xs i)) :: rest))) : W p l e R s m args below meth c H locs cells slots Q (F0 m pc ls (.int (zI i) :: .ref b :: rest)) :=
  va_sld hx hb hX hbl hbA hS (zI_in hi (by omega)) d (by rw [zI_clamp (by omega)]; rw [show zI (sx xs i) = xs i.toNat from zI_of _] at kk; exact kk)
theorem cmp_self (x : Int64) : lg_cmp x x = 0 := by
  unfold lg_cmp
  split
  · rename_i h; exact (Int64.lt_irrefl h).elim
  · rw [if_pos rfl]
theorem LW_mk {N : Int} {σ pa sl sv pd : Int → Int} {kn ln : Int} {τ : Int → Int} {ss hh : Int → Int → Int} {pr pd2 : Int → Int} {ln2 fr kp : Int} {su : Int → Int} {H : Heap} (hM : mAt D cs am σ pa sl sv pd kn ln H) (hE : eAt D cs a τ ss hh pr pd2 ln2 fr kp su H) (h : REL N σ pa sl sv pd kn ln τ ss hh pd2 ln2 fr kp su) : LW D cs a am N H := by
  have e1 : ln2 = ln := h.2.1.2.1
  have e2 : kp = kn := h.2.2.1.2.1
  subst e1
  subst e2
  exact ⟨_, _, _, _, _, _, _, _, _, _, _, _, _, _, hM, hE, h⟩
theorem LW_mono {M : Int} (h : LW D cs a am N H) (hm : N ≤ M) : LW D cs a am M H := by
  obtain ⟨σ, pa, sl, sv, pd, kn, ln, τ, ss, hh, pr, pd2, fr, su, h1, h2, h3⟩ := h
  exact ⟨σ, pa, sl, sv, pd, kn, ln, τ, ss, hh, pr, pd2, fr, su, h1, h2, REL_mono h3 hm⟩
set_option maxHeartbeats 4000000 in
set_option maxRecDepth 100000 in
theorem law_set (C0 : LC p l s m meth c b L xs D cs a am) (hN : 0 ≤ N ∧ N ≤ 900000) {i : Int} (hi : 0 ≤ i ∧ i + 3 < L) (nx : ∀ (H : Heap) (locs : List Loc), LW D cs a am (N + 100) H → va_S (fun q : Nat => s.heap.size ≤ q) s.heap H locs → W p l e room_1 s m #[Value.ref b] below meth c H locs 244 3174 Q (F0 m 791 ls [])) (hW : LW D cs a am N H) (hS : va_S (fun q : Nat => s.heap.size ≤ q) s.heap H locs) (hl : lv_has ls 4 [(3, .int (zI i)), (2, .ref (am 0)), (1, .ref (a 0)), (0, .ref b)]) : W p l e room_1 s m #[Value.ref b] below meth c H locs 244 3174 Q (F0 m 152 ls []) := by
  obtain ⟨S, hK, hZ, hX, hbl, ⟨hI, hm⟩, hea, hma, hdis, hL⟩ := C0
  have hx := S.1
  have hb := S.2.1
  have hown := S.2.2.2.1
  have hts := S.2.2.2.2
  have hbA : ¬ (fun q : Nat => s.heap.size ≤ q) b := Nat.not_le.mpr hbl
  obtain ⟨σ, pa, sl, sv, pd, kn, ln, τ, ss, hh, pr, pd2, fr, su, hM, hE, hR⟩ := hW
  refine lv_aload_n hx hb dL_law_152 rfl (lv_at hl 2 rfl) ?_
  refine lv_aload_n hx hb dL_law_153 rfl (lv_at hl 3 rfl) ?_
  refine lv_iload_n hx hb dL_law_154 rfl (lv_at hl 0 rfl) ?_
  refine x_iconst hx hb dL_law_155 ?_
  refine x_iadd hx hb dL_law_156 ?_
  refine l_arg hx hb hX hbl hbA hS (i := i + 1) (by omega) hL dL_law_157 ?_
  refine lv_aload_n hx hb dL_law_158 rfl (lv_at hl 3 rfl) ?_
  refine lv_iload_n hx hb dL_law_159 rfl (lv_at hl 0 rfl) ?_
  refine x_iconst hx hb dL_law_160 ?_
  refine x_iadd hx hb dL_law_161 ?_
  refine l_arg hx hb hX hbl hbA hS (i := i + 2) (by omega) hL dL_law_162 ?_
  obtain ⟨x, σ1, pa1, sl1, sv1, pd1, kn1, ln1, τ1, ss1, hh1, pr1, pd21, ln21, fr1, kp1, su1, h1, h2, h3⟩ := pr_set (l := l) (D := D) (cs := cs) (Nz := s.heap.size) (a := a) (am := am) (pr := pr) hR hI hm hea hN (zI_rng _) (zI_rng _)
  refine x_callVMz (As := [.int (zI (sx xs (i + 1))), .int (zI (sx xs (i + 2)))]) (rest := []) S hK (kZ.keptS hZ hS (fun q h => h)) h1 (cwV 2 hts gL_law_X6_set rfl rfl rfl (by decide +kernel) ⟨(Nat.le_of_ble_eq_true rfl), (Nat.le_of_ble_eq_true rfl)⟩) (x_rc hK (eAt_0 hE) rfl) hE rfl hl.1 (Nat.le_of_ble_eq_true rfl) dL_law_163 ⟨(Nat.le_of_ble_eq_true rfl), (Nat.le_of_ble_eq_true rfl)⟩ hS hea (fun H locs hE hF hS => ?_)
  have hM : mAt D cs am σ pa sl sv pd kn ln H := bAt_F hM hF (fun j p q z => by
    obtain ⟨i2, p2, q2, z2⟩ := z
    exact hdis i2 j p2 q2 p q z2.symm)
  refine lv_aload_n hx hb dL_law_166 rfl (lv_at hl 1 rfl) ?_
  refine lv_aload_n hx hb dL_law_167 rfl (lv_at hl 3 rfl) ?_
  refine lv_iload_n hx hb dL_law_168 rfl (lv_at hl 0 rfl) ?_
  refine x_iconst hx hb dL_law_169 ?_
  refine x_iadd hx hb dL_law_170 ?_
  refine l_arg hx hb hX hbl hbA hS (i := i + 1) (by omega) hL dL_law_171 ?_
  refine lv_aload_n hx hb dL_law_172 rfl (lv_at hl 3 rfl) ?_
  refine lv_iload_n hx hb dL_law_173 rfl (lv_at hl 0 rfl) ?_
  refine x_iconst hx hb dL_law_174 ?_
  refine x_iadd hx hb dL_law_175 ?_
  refine l_arg hx hb hX hbl hbA hS (i := i + 2) (by omega) hL dL_law_176 ?_
  refine x_callVM (As := [.int (zI (sx xs (i + 1))), .int (zI (sx xs (i + 2)))]) (rest := [.int (zI x)]) S hK h2 (cwV 2 hts gL_law_X7_set rfl rfl rfl (by decide +kernel) ⟨(Nat.le_of_ble_eq_true rfl), (Nat.le_of_ble_eq_true rfl)⟩) (x_rc hK (mAt_0 hM) rfl) hM rfl hl.1 (Nat.le_of_ble_eq_true rfl) dL_law_177 ⟨(Nat.le_of_ble_eq_true rfl), (Nat.le_of_ble_eq_true rfl)⟩ hS hma (fun H locs hM hF hS => ?_)
  have hE : eAt D cs a τ1 ss1 hh1 pr1 pd21 ln21 fr1 kp1 su1 H := bAt_F hE hF (fun j p q z => by
    obtain ⟨i2, p2, q2, z2⟩ := z
    exact hdis j i2 p q p2 q2 z2)
  refine lv_icmp_eq (tgt := 791) hx hb dL_law_180 (by decide) (fun _ => ?_) (fun z => absurd rfl z)
  exact nx H locs (LW_mk hM hE h3) hS
set_option maxHeartbeats 4000000 in
set_option maxRecDepth 100000 in
theorem law_meter (C0 : LC p l s m meth c b L xs D cs a am) (hN : 0 ≤ N ∧ N ≤ 900000) {i : Int} (hi : 0 ≤ i ∧ i + 3 < L) (nx : ∀ (H : Heap) (locs : List Loc), LW D cs a am (N + 100) H → va_S (fun q : Nat => s.heap.size ≤ q) s.heap H locs → W p l e room_1 s m #[Value.ref b] below meth c H locs 244 3174 Q (F0 m 791 ls [])) (hW : LW D cs a am N H) (hS : va_S (fun q : Nat => s.heap.size ≤ q) s.heap H locs) (hl : lv_has ls 4 [(3, .int (zI i)), (2, .ref (am 0)), (1, .ref (a 0)), (0, .ref b)]) : W p l e room_1 s m #[Value.ref b] below meth c H locs 244 3174 Q (F0 m 185 ls []) := by
  obtain ⟨S, hK, hZ, hX, hbl, ⟨hI, hm⟩, hea, hma, hdis, hL⟩ := C0
  have hx := S.1
  have hb := S.2.1
  have hown := S.2.2.2.1
  have hts := S.2.2.2.2
  have hbA : ¬ (fun q : Nat => s.heap.size ≤ q) b := Nat.not_le.mpr hbl
  obtain ⟨σ, pa, sl, sv, pd, kn, ln, τ, ss, hh, pr, pd2, fr, su, hM, hE, hR⟩ := hW
  refine lv_aload_n hx hb dL_law_185 rfl (lv_at hl 2 rfl) ?_
  refine lv_aload_n hx hb dL_law_186 rfl (lv_at hl 3 rfl) ?_
  refine lv_iload_n hx hb dL_law_187 rfl (lv_at hl 0 rfl) ?_
  refine x_iconst hx hb dL_law_188 ?_
  refine x_iadd hx hb dL_law_189 ?_
  refine l_arg hx hb hX hbl hbA hS (i := i + 1) (by omega) hL dL_law_190 ?_
  obtain ⟨x, σ1, pa1, sl1, sv1, pd1, kn1, ln1, τ1, ss1, hh1, pr1, pd21, ln21, fr1, kp1, su1, h1, h2, h3⟩ := pr_meter (l := l) (D := D) (cs := cs) (Nz := s.heap.size) (a := a) (am := am) (pr := pr) hR hI hm hea hN (zI_rng _)
  refine x_callVMz (As := [.int (zI (sx xs (i + 1)))]) (rest := []) S hK (kZ.keptS hZ hS (fun q h => h)) h1 (cwV 1 hts gL_law_X6_meter rfl rfl rfl (by decide +kernel) ⟨(Nat.le_of_ble_eq_true rfl), (Nat.le_of_ble_eq_true rfl)⟩) (x_rc hK (eAt_0 hE) rfl) hE rfl hl.1 (Nat.le_of_ble_eq_true rfl) dL_law_191 ⟨(Nat.le_of_ble_eq_true rfl), (Nat.le_of_ble_eq_true rfl)⟩ hS hea (fun H locs hE hF hS => ?_)
  have hM : mAt D cs am σ pa sl sv pd kn ln H := bAt_F hM hF (fun j p q z => by
    obtain ⟨i2, p2, q2, z2⟩ := z
    exact hdis i2 j p2 q2 p q z2.symm)
  refine lv_aload_n hx hb dL_law_194 rfl (lv_at hl 1 rfl) ?_
  refine lv_aload_n hx hb dL_law_195 rfl (lv_at hl 3 rfl) ?_
  refine lv_iload_n hx hb dL_law_196 rfl (lv_at hl 0 rfl) ?_
  refine x_iconst hx hb dL_law_197 ?_
  refine x_iadd hx hb dL_law_198 ?_
  refine l_arg hx hb hX hbl hbA hS (i := i + 1) (by omega) hL dL_law_199 ?_
  refine x_callVM (As := [.int (zI (sx xs (i + 1)))]) (rest := [.int (zI x)]) S hK h2 (cwV 1 hts gL_law_X7_meter rfl rfl rfl (by decide +kernel) ⟨(Nat.le_of_ble_eq_true rfl), (Nat.le_of_ble_eq_true rfl)⟩) (x_rc hK (mAt_0 hM) rfl) hM rfl hl.1 (Nat.le_of_ble_eq_true rfl) dL_law_200 ⟨(Nat.le_of_ble_eq_true rfl), (Nat.le_of_ble_eq_true rfl)⟩ hS hma (fun H locs hM hF hS => ?_)
  have hE : eAt D cs a τ1 ss1 hh1 pr1 pd21 ln21 fr1 kp1 su1 H := bAt_F hE hF (fun j p q z => by
    obtain ⟨i2, p2, q2, z2⟩ := z
    exact hdis j i2 p q p2 q2 z2)
  refine lv_icmp_eq (tgt := 791) hx hb dL_law_203 (by decide) (fun _ => ?_) (fun z => absurd rfl z)
  exact nx H locs (LW_mk hM hE h3) hS
set_option maxHeartbeats 4000000 in
set_option maxRecDepth 100000 in
theorem law_load (C0 : LC p l s m meth c b L xs D cs a am) (hN : 0 ≤ N ∧ N ≤ 900000) {i : Int} (hi : 0 ≤ i ∧ i + 3 < L) (nx : ∀ (H : Heap) (locs : List Loc), LW D cs a am (N + 100) H → va_S (fun q : Nat => s.heap.size ≤ q) s.heap H locs → W p l e room_1 s m #[Value.ref b] below meth c H locs 244 3174 Q (F0 m 791 ls [])) (hW : LW D cs a am N H) (hS : va_S (fun q : Nat => s.heap.size ≤ q) s.heap H locs) (hl : lv_has ls 4 [(3, .int (zI i)), (2, .ref (am 0)), (1, .ref (a 0)), (0, .ref b)]) : W p l e room_1 s m #[Value.ref b] below meth c H locs 244 3174 Q (F0 m 208 ls []) := by
  obtain ⟨S, hK, hZ, hX, hbl, ⟨hI, hm⟩, hea, hma, hdis, hL⟩ := C0
  have hx := S.1
  have hb := S.2.1
  have hown := S.2.2.2.1
  have hts := S.2.2.2.2
  have hbA : ¬ (fun q : Nat => s.heap.size ≤ q) b := Nat.not_le.mpr hbl
  obtain ⟨σ, pa, sl, sv, pd, kn, ln, τ, ss, hh, pr, pd2, fr, su, hM, hE, hR⟩ := hW
  refine lv_aload_n hx hb dL_law_208 rfl (lv_at hl 2 rfl) ?_
  refine lv_aload_n hx hb dL_law_209 rfl (lv_at hl 3 rfl) ?_
  refine lv_iload_n hx hb dL_law_210 rfl (lv_at hl 0 rfl) ?_
  refine x_iconst hx hb dL_law_211 ?_
  refine x_iadd hx hb dL_law_212 ?_
  refine l_arg hx hb hX hbl hbA hS (i := i + 1) (by omega) hL dL_law_213 ?_
  refine lv_aload_n hx hb dL_law_214 rfl (lv_at hl 3 rfl) ?_
  refine lv_iload_n hx hb dL_law_215 rfl (lv_at hl 0 rfl) ?_
  refine x_iconst hx hb dL_law_216 ?_
  refine x_iadd hx hb dL_law_217 ?_
  refine l_arg hx hb hX hbl hbA hS (i := i + 2) (by omega) hL dL_law_218 ?_
  obtain ⟨x, σ1, pa1, sl1, sv1, pd1, kn1, ln1, τ1, ss1, hh1, pr1, pd21, ln21, fr1, kp1, su1, h1, h2, h3⟩ := pr_load (l := l) (D := D) (cs := cs) (Nz := s.heap.size) (a := a) (am := am) (pr := pr) hR hI hm hea hN (zI_rng _) (zI_rng _)
  refine x_callVMz (As := [.int (zI (sx xs (i + 1))), .int (zI (sx xs (i + 2)))]) (rest := []) S hK (kZ.keptS hZ hS (fun q h => h)) h1 (cwV 2 hts gL_law_X6_load rfl rfl rfl (by decide +kernel) ⟨(Nat.le_of_ble_eq_true rfl), (Nat.le_of_ble_eq_true rfl)⟩) (x_rc hK (eAt_0 hE) rfl) hE rfl hl.1 (Nat.le_of_ble_eq_true rfl) dL_law_219 ⟨(Nat.le_of_ble_eq_true rfl), (Nat.le_of_ble_eq_true rfl)⟩ hS hea (fun H locs hE hF hS => ?_)
  have hM : mAt D cs am σ pa sl sv pd kn ln H := bAt_F hM hF (fun j p q z => by
    obtain ⟨i2, p2, q2, z2⟩ := z
    exact hdis i2 j p2 q2 p q z2.symm)
  refine lv_aload_n hx hb dL_law_222 rfl (lv_at hl 1 rfl) ?_
  refine lv_aload_n hx hb dL_law_223 rfl (lv_at hl 3 rfl) ?_
  refine lv_iload_n hx hb dL_law_224 rfl (lv_at hl 0 rfl) ?_
  refine x_iconst hx hb dL_law_225 ?_
  refine x_iadd hx hb dL_law_226 ?_
  refine l_arg hx hb hX hbl hbA hS (i := i + 1) (by omega) hL dL_law_227 ?_
  refine lv_aload_n hx hb dL_law_228 rfl (lv_at hl 3 rfl) ?_
  refine lv_iload_n hx hb dL_law_229 rfl (lv_at hl 0 rfl) ?_
  refine x_iconst hx hb dL_law_230 ?_
  refine x_iadd hx hb dL_law_231 ?_
  refine l_arg hx hb hX hbl hbA hS (i := i + 2) (by omega) hL dL_law_232 ?_
  refine x_callVM (As := [.int (zI (sx xs (i + 1))), .int (zI (sx xs (i + 2)))]) (rest := [.int (zI x)]) S hK h2 (cwV 2 hts gL_law_X7_load rfl rfl rfl (by decide +kernel) ⟨(Nat.le_of_ble_eq_true rfl), (Nat.le_of_ble_eq_true rfl)⟩) (x_rc hK (mAt_0 hM) rfl) hM rfl hl.1 (Nat.le_of_ble_eq_true rfl) dL_law_233 ⟨(Nat.le_of_ble_eq_true rfl), (Nat.le_of_ble_eq_true rfl)⟩ hS hma (fun H locs hM hF hS => ?_)
  have hE : eAt D cs a τ1 ss1 hh1 pr1 pd21 ln21 fr1 kp1 su1 H := bAt_F hE hF (fun j p q z => by
    obtain ⟨i2, p2, q2, z2⟩ := z
    exact hdis j i2 p q p2 q2 z2)
  refine lv_icmp_eq (tgt := 791) hx hb dL_law_236 (by decide) (fun _ => ?_) (fun z => absurd rfl z)
  exact nx H locs (LW_mk hM hE h3) hS
set_option maxHeartbeats 4000000 in
set_option maxRecDepth 100000 in
theorem law_turn (C0 : LC p l s m meth c b L xs D cs a am) (hN : 0 ≤ N ∧ N ≤ 900000) {i : Int} (hi : 0 ≤ i ∧ i + 3 < L) (nx : ∀ (H : Heap) (locs : List Loc), LW D cs a am (N + 100) H → va_S (fun q : Nat => s.heap.size ≤ q) s.heap H locs → W p l e room_1 s m #[Value.ref b] below meth c H locs 244 3174 Q (F0 m 791 ls [])) (hW : LW D cs a am N H) (hS : va_S (fun q : Nat => s.heap.size ≤ q) s.heap H locs) (hl : lv_has ls 4 [(3, .int (zI i)), (2, .ref (am 0)), (1, .ref (a 0)), (0, .ref b)]) : W p l e room_1 s m #[Value.ref b] below meth c H locs 244 3174 Q (F0 m 241 ls []) := by
  obtain ⟨S, hK, hZ, hX, hbl, ⟨hI, hm⟩, hea, hma, hdis, hL⟩ := C0
  have hx := S.1
  have hb := S.2.1
  have hown := S.2.2.2.1
  have hts := S.2.2.2.2
  have hbA : ¬ (fun q : Nat => s.heap.size ≤ q) b := Nat.not_le.mpr hbl
  obtain ⟨σ, pa, sl, sv, pd, kn, ln, τ, ss, hh, pr, pd2, fr, su, hM, hE, hR⟩ := hW
  refine lv_aload_n hx hb dL_law_241 rfl (lv_at hl 2 rfl) ?_
  refine lv_aload_n hx hb dL_law_242 rfl (lv_at hl 3 rfl) ?_
  refine lv_iload_n hx hb dL_law_243 rfl (lv_at hl 0 rfl) ?_
  refine x_iconst hx hb dL_law_244 ?_
  refine x_iadd hx hb dL_law_245 ?_
  refine l_arg hx hb hX hbl hbA hS (i := i + 1) (by omega) hL dL_law_246 ?_
  obtain ⟨x, σ1, pa1, sl1, sv1, pd1, kn1, ln1, τ1, ss1, hh1, pr1, pd21, ln21, fr1, kp1, su1, h1, h2, h3⟩ := pr_turn (l := l) (D := D) (cs := cs) (Nz := s.heap.size) (a := a) (am := am) (pr := pr) hR hI hm hea hN (zI_rng _)
  refine x_callVMz (As := [.int (zI (sx xs (i + 1)))]) (rest := []) S hK (kZ.keptS hZ hS (fun q h => h)) h1 (cwV 1 hts gL_law_X6_turn rfl rfl rfl (by decide +kernel) ⟨(Nat.le_of_ble_eq_true rfl), (Nat.le_of_ble_eq_true rfl)⟩) (x_rc hK (eAt_0 hE) rfl) hE rfl hl.1 (Nat.le_of_ble_eq_true rfl) dL_law_247 ⟨(Nat.le_of_ble_eq_true rfl), (Nat.le_of_ble_eq_true rfl)⟩ hS hea (fun H locs hE hF hS => ?_)
  have hM : mAt D cs am σ pa sl sv pd kn ln H := bAt_F hM hF (fun j p q z => by
    obtain ⟨i2, p2, q2, z2⟩ := z
    exact hdis i2 j p2 q2 p q z2.symm)
  refine lv_aload_n hx hb dL_law_250 rfl (lv_at hl 1 rfl) ?_
  refine lv_aload_n hx hb dL_law_251 rfl (lv_at hl 3 rfl) ?_
  refine lv_iload_n hx hb dL_law_252 rfl (lv_at hl 0 rfl) ?_
  refine x_iconst hx hb dL_law_253 ?_
  refine x_iadd hx hb dL_law_254 ?_
  refine l_arg hx hb hX hbl hbA hS (i := i + 1) (by omega) hL dL_law_255 ?_
  refine x_callVM (As := [.int (zI (sx xs (i + 1)))]) (rest := [.int (zI x)]) S hK h2 (cwV 1 hts gL_law_X7_turn rfl rfl rfl (by decide +kernel) ⟨(Nat.le_of_ble_eq_true rfl), (Nat.le_of_ble_eq_true rfl)⟩) (x_rc hK (mAt_0 hM) rfl) hM rfl hl.1 (Nat.le_of_ble_eq_true rfl) dL_law_256 ⟨(Nat.le_of_ble_eq_true rfl), (Nat.le_of_ble_eq_true rfl)⟩ hS hma (fun H locs hM hF hS => ?_)
  have hE : eAt D cs a τ1 ss1 hh1 pr1 pd21 ln21 fr1 kp1 su1 H := bAt_F hE hF (fun j p q z => by
    obtain ⟨i2, p2, q2, z2⟩ := z
    exact hdis j i2 p q p2 q2 z2)
  refine lv_icmp_eq (tgt := 791) hx hb dL_law_259 (by decide) (fun _ => ?_) (fun z => absurd rfl z)
  exact nx H locs (LW_mk hM hE h3) hS
set_option maxHeartbeats 4000000 in
set_option maxRecDepth 100000 in
theorem law_tamper (C0 : LC p l s m meth c b L xs D cs a am) (hN : 0 ≤ N ∧ N ≤ 900000) {i : Int} (hi : 0 ≤ i ∧ i + 3 < L) (nx : ∀ (H : Heap) (locs : List Loc), LW D cs a am (N + 100) H → va_S (fun q : Nat => s.heap.size ≤ q) s.heap H locs → W p l e room_1 s m #[Value.ref b] below meth c H locs 244 3174 Q (F0 m 791 ls [])) (hW : LW D cs a am N H) (hS : va_S (fun q : Nat => s.heap.size ≤ q) s.heap H locs) (hl : lv_has ls 4 [(3, .int (zI i)), (2, .ref (am 0)), (1, .ref (a 0)), (0, .ref b)]) : W p l e room_1 s m #[Value.ref b] below meth c H locs 244 3174 Q (F0 m 264 ls []) := by
  obtain ⟨S, hK, hZ, hX, hbl, ⟨hI, hm⟩, hea, hma, hdis, hL⟩ := C0
  have hx := S.1
  have hb := S.2.1
  have hown := S.2.2.2.1
  have hts := S.2.2.2.2
  have hbA : ¬ (fun q : Nat => s.heap.size ≤ q) b := Nat.not_le.mpr hbl
  obtain ⟨σ, pa, sl, sv, pd, kn, ln, τ, ss, hh, pr, pd2, fr, su, hM, hE, hR⟩ := hW
  refine lv_aload_n hx hb dL_law_264 rfl (lv_at hl 2 rfl) ?_
  refine lv_aload_n hx hb dL_law_265 rfl (lv_at hl 3 rfl) ?_
  refine lv_iload_n hx hb dL_law_266 rfl (lv_at hl 0 rfl) ?_
  refine x_iconst hx hb dL_law_267 ?_
  refine x_iadd hx hb dL_law_268 ?_
  refine l_arg hx hb hX hbl hbA hS (i := i + 1) (by omega) hL dL_law_269 ?_
  obtain ⟨x, σ1, pa1, sl1, sv1, pd1, kn1, ln1, τ1, ss1, hh1, pr1, pd21, ln21, fr1, kp1, su1, h1, h2, h3⟩ := pr_tamper (l := l) (D := D) (cs := cs) (Nz := s.heap.size) (a := a) (am := am) (pr := pr) hR hI hm hea hN (zI_rng _)
  refine x_callVMz (As := [.int (zI (sx xs (i + 1)))]) (rest := []) S hK (kZ.keptS hZ hS (fun q h => h)) h1 (cwV 1 hts gL_law_X6_tamper rfl rfl rfl (by decide +kernel) ⟨(Nat.le_of_ble_eq_true rfl), (Nat.le_of_ble_eq_true rfl)⟩) (x_rc hK (eAt_0 hE) rfl) hE rfl hl.1 (Nat.le_of_ble_eq_true rfl) dL_law_270 ⟨(Nat.le_of_ble_eq_true rfl), (Nat.le_of_ble_eq_true rfl)⟩ hS hea (fun H locs hE hF hS => ?_)
  have hM : mAt D cs am σ pa sl sv pd kn ln H := bAt_F hM hF (fun j p q z => by
    obtain ⟨i2, p2, q2, z2⟩ := z
    exact hdis i2 j p2 q2 p q z2.symm)
  refine lv_aload_n hx hb dL_law_273 rfl (lv_at hl 1 rfl) ?_
  refine lv_aload_n hx hb dL_law_274 rfl (lv_at hl 3 rfl) ?_
  refine lv_iload_n hx hb dL_law_275 rfl (lv_at hl 0 rfl) ?_
  refine x_iconst hx hb dL_law_276 ?_
  refine x_iadd hx hb dL_law_277 ?_
  refine l_arg hx hb hX hbl hbA hS (i := i + 1) (by omega) hL dL_law_278 ?_
  refine x_callVM (As := [.int (zI (sx xs (i + 1)))]) (rest := [.int (zI x)]) S hK h2 (cwV 1 hts gL_law_X7_tamper rfl rfl rfl (by decide +kernel) ⟨(Nat.le_of_ble_eq_true rfl), (Nat.le_of_ble_eq_true rfl)⟩) (x_rc hK (mAt_0 hM) rfl) hM rfl hl.1 (Nat.le_of_ble_eq_true rfl) dL_law_279 ⟨(Nat.le_of_ble_eq_true rfl), (Nat.le_of_ble_eq_true rfl)⟩ hS hma (fun H locs hM hF hS => ?_)
  have hE : eAt D cs a τ1 ss1 hh1 pr1 pd21 ln21 fr1 kp1 su1 H := bAt_F hE hF (fun j p q z => by
    obtain ⟨i2, p2, q2, z2⟩ := z
    exact hdis j i2 p q p2 q2 z2)
  refine lv_icmp_eq (tgt := 791) hx hb dL_law_282 (by decide) (fun _ => ?_) (fun z => absurd rfl z)
  exact nx H locs (LW_mk hM hE h3) hS
set_option maxHeartbeats 4000000 in
set_option maxRecDepth 100000 in
theorem law_visit (C0 : LC p l s m meth c b L xs D cs a am) (hN : 0 ≤ N ∧ N ≤ 900000) {i : Int} (hi : 0 ≤ i ∧ i + 3 < L) (nx : ∀ (H : Heap) (locs : List Loc), LW D cs a am (N + 100) H → va_S (fun q : Nat => s.heap.size ≤ q) s.heap H locs → W p l e room_1 s m #[Value.ref b] below meth c H locs 244 3174 Q (F0 m 791 ls [])) (hW : LW D cs a am N H) (hS : va_S (fun q : Nat => s.heap.size ≤ q) s.heap H locs) (hl : lv_has ls 4 [(3, .int (zI i)), (2, .ref (am 0)), (1, .ref (a 0)), (0, .ref b)]) : W p l e room_1 s m #[Value.ref b] below meth c H locs 244 3174 Q (F0 m 287 ls []) := by
  obtain ⟨S, hK, hZ, hX, hbl, ⟨hI, hm⟩, hea, hma, hdis, hL⟩ := C0
  have hx := S.1
  have hb := S.2.1
  have hown := S.2.2.2.1
  have hts := S.2.2.2.2
  have hbA : ¬ (fun q : Nat => s.heap.size ≤ q) b := Nat.not_le.mpr hbl
  obtain ⟨σ, pa, sl, sv, pd, kn, ln, τ, ss, hh, pr, pd2, fr, su, hM, hE, hR⟩ := hW
  refine lv_aload_n hx hb dL_law_287 rfl (lv_at hl 2 rfl) ?_
  refine lv_aload_n hx hb dL_law_288 rfl (lv_at hl 3 rfl) ?_
  refine lv_iload_n hx hb dL_law_289 rfl (lv_at hl 0 rfl) ?_
  refine x_iconst hx hb dL_law_290 ?_
  refine x_iadd hx hb dL_law_291 ?_
  refine l_arg hx hb hX hbl hbA hS (i := i + 1) (by omega) hL dL_law_292 ?_
  obtain ⟨x, σ1, pa1, sl1, sv1, pd1, kn1, ln1, τ1, ss1, hh1, pr1, pd21, ln21, fr1, kp1, su1, h1, h2, h3⟩ := pr_visit (l := l) (D := D) (cs := cs) (Nz := s.heap.size) (a := a) (am := am) (pr := pr) hR hI hm hea hN (zI_rng _)
  refine x_callVMz (As := [.int (zI (sx xs (i + 1)))]) (rest := []) S hK (kZ.keptS hZ hS (fun q h => h)) h1 (cwV 1 hts gL_law_X6_visit rfl rfl rfl (by decide +kernel) ⟨(Nat.le_of_ble_eq_true rfl), (Nat.le_of_ble_eq_true rfl)⟩) (x_rc hK (eAt_0 hE) rfl) hE rfl hl.1 (Nat.le_of_ble_eq_true rfl) dL_law_293 ⟨(Nat.le_of_ble_eq_true rfl), (Nat.le_of_ble_eq_true rfl)⟩ hS hea (fun H locs hE hF hS => ?_)
  have hM : mAt D cs am σ pa sl sv pd kn ln H := bAt_F hM hF (fun j p q z => by
    obtain ⟨i2, p2, q2, z2⟩ := z
    exact hdis i2 j p2 q2 p q z2.symm)
  refine lv_aload_n hx hb dL_law_296 rfl (lv_at hl 1 rfl) ?_
  refine lv_aload_n hx hb dL_law_297 rfl (lv_at hl 3 rfl) ?_
  refine lv_iload_n hx hb dL_law_298 rfl (lv_at hl 0 rfl) ?_
  refine x_iconst hx hb dL_law_299 ?_
  refine x_iadd hx hb dL_law_300 ?_
  refine l_arg hx hb hX hbl hbA hS (i := i + 1) (by omega) hL dL_law_301 ?_
  refine x_callVM (As := [.int (zI (sx xs (i + 1)))]) (rest := [.int (zI x)]) S hK h2 (cwV 1 hts gL_law_X7_visit rfl rfl rfl (by decide +kernel) ⟨(Nat.le_of_ble_eq_true rfl), (Nat.le_of_ble_eq_true rfl)⟩) (x_rc hK (mAt_0 hM) rfl) hM rfl hl.1 (Nat.le_of_ble_eq_true rfl) dL_law_302 ⟨(Nat.le_of_ble_eq_true rfl), (Nat.le_of_ble_eq_true rfl)⟩ hS hma (fun H locs hM hF hS => ?_)
  have hE : eAt D cs a τ1 ss1 hh1 pr1 pd21 ln21 fr1 kp1 su1 H := bAt_F hE hF (fun j p q z => by
    obtain ⟨i2, p2, q2, z2⟩ := z
    exact hdis j i2 p q p2 q2 z2)
  refine lv_icmp_eq (tgt := 791) hx hb dL_law_305 (by decide) (fun _ => ?_) (fun z => absurd rfl z)
  exact nx H locs (LW_mk hM hE h3) hS
set_option maxHeartbeats 4000000 in
set_option maxRecDepth 100000 in
theorem law_pass (C0 : LC p l s m meth c b L xs D cs a am) (hN : 0 ≤ N ∧ N ≤ 900000) {i : Int} (hi : 0 ≤ i ∧ i + 3 < L) (nx : ∀ (H : Heap) (locs : List Loc), LW D cs a am (N + 100) H → va_S (fun q : Nat => s.heap.size ≤ q) s.heap H locs → W p l e room_1 s m #[Value.ref b] below meth c H locs 244 3174 Q (F0 m 791 ls [])) (hW : LW D cs a am N H) (hS : va_S (fun q : Nat => s.heap.size ≤ q) s.heap H locs) (hl : lv_has ls 4 [(3, .int (zI i)), (2, .ref (am 0)), (1, .ref (a 0)), (0, .ref b)]) : W p l e room_1 s m #[Value.ref b] below meth c H locs 244 3174 Q (F0 m 310 ls []) := by
  obtain ⟨S, hK, hZ, hX, hbl, ⟨hI, hm⟩, hea, hma, hdis, hL⟩ := C0
  have hx := S.1
  have hb := S.2.1
  have hown := S.2.2.2.1
  have hts := S.2.2.2.2
  have hbA : ¬ (fun q : Nat => s.heap.size ≤ q) b := Nat.not_le.mpr hbl
  obtain ⟨σ, pa, sl, sv, pd, kn, ln, τ, ss, hh, pr, pd2, fr, su, hM, hE, hR⟩ := hW
  refine lv_aload_n hx hb dL_law_310 rfl (lv_at hl 2 rfl) ?_
  refine lv_aload_n hx hb dL_law_311 rfl (lv_at hl 3 rfl) ?_
  refine lv_iload_n hx hb dL_law_312 rfl (lv_at hl 0 rfl) ?_
  refine x_iconst hx hb dL_law_313 ?_
  refine x_iadd hx hb dL_law_314 ?_
  refine l_arg hx hb hX hbl hbA hS (i := i + 1) (by omega) hL dL_law_315 ?_
  obtain ⟨x, σ1, pa1, sl1, sv1, pd1, kn1, ln1, τ1, ss1, hh1, pr1, pd21, ln21, fr1, kp1, su1, h1, h2, h3⟩ := pr_pass (l := l) (D := D) (cs := cs) (Nz := s.heap.size) (a := a) (am := am) (pr := pr) hR hI hm hea hN (zI_rng _)
  refine x_callVMz (As := [.int (zI (sx xs (i + 1)))]) (rest := []) S hK (kZ.keptS hZ hS (fun q h => h)) h1 (cwV 1 hts gL_law_X6_pass rfl rfl rfl (by decide +kernel) ⟨(Nat.le_of_ble_eq_true rfl), (Nat.le_of_ble_eq_true rfl)⟩) (x_rc hK (eAt_0 hE) rfl) hE rfl hl.1 (Nat.le_of_ble_eq_true rfl) dL_law_316 ⟨(Nat.le_of_ble_eq_true rfl), (Nat.le_of_ble_eq_true rfl)⟩ hS hea (fun H locs hE hF hS => ?_)
  have hM : mAt D cs am σ pa sl sv pd kn ln H := bAt_F hM hF (fun j p q z => by
    obtain ⟨i2, p2, q2, z2⟩ := z
    exact hdis i2 j p2 q2 p q z2.symm)
  refine lv_aload_n hx hb dL_law_319 rfl (lv_at hl 1 rfl) ?_
  refine lv_aload_n hx hb dL_law_320 rfl (lv_at hl 3 rfl) ?_
  refine lv_iload_n hx hb dL_law_321 rfl (lv_at hl 0 rfl) ?_
  refine x_iconst hx hb dL_law_322 ?_
  refine x_iadd hx hb dL_law_323 ?_
  refine l_arg hx hb hX hbl hbA hS (i := i + 1) (by omega) hL dL_law_324 ?_
  refine x_callVM (As := [.int (zI (sx xs (i + 1)))]) (rest := [.int (zI x)]) S hK h2 (cwV 1 hts gL_law_X7_pass rfl rfl rfl (by decide +kernel) ⟨(Nat.le_of_ble_eq_true rfl), (Nat.le_of_ble_eq_true rfl)⟩) (x_rc hK (mAt_0 hM) rfl) hM rfl hl.1 (Nat.le_of_ble_eq_true rfl) dL_law_325 ⟨(Nat.le_of_ble_eq_true rfl), (Nat.le_of_ble_eq_true rfl)⟩ hS hma (fun H locs hM hF hS => ?_)
  have hE : eAt D cs a τ1 ss1 hh1 pr1 pd21 ln21 fr1 kp1 su1 H := bAt_F hE hF (fun j p q z => by
    obtain ⟨i2, p2, q2, z2⟩ := z
    exact hdis j i2 p q p2 q2 z2)
  refine lv_icmp_eq (tgt := 791) hx hb dL_law_328 (by decide) (fun _ => ?_) (fun z => absurd rfl z)
  exact nx H locs (LW_mk hM hE h3) hS
set_option maxHeartbeats 4000000 in
set_option maxRecDepth 100000 in
theorem law_write (C0 : LC p l s m meth c b L xs D cs a am) (hN : 0 ≤ N ∧ N ≤ 900000) {i : Int} (hi : 0 ≤ i ∧ i + 3 < L) (nx : ∀ (H : Heap) (locs : List Loc), LW D cs a am (N + 100) H → va_S (fun q : Nat => s.heap.size ≤ q) s.heap H locs → W p l e room_1 s m #[Value.ref b] below meth c H locs 244 3174 Q (F0 m 791 ls [])) (hW : LW D cs a am N H) (hS : va_S (fun q : Nat => s.heap.size ≤ q) s.heap H locs) (hl : lv_has ls 4 [(3, .int (zI i)), (2, .ref (am 0)), (1, .ref (a 0)), (0, .ref b)]) : W p l e room_1 s m #[Value.ref b] below meth c H locs 244 3174 Q (F0 m 333 ls []) := by
  obtain ⟨S, hK, hZ, hX, hbl, ⟨hI, hm⟩, hea, hma, hdis, hL⟩ := C0
  have hx := S.1
  have hb := S.2.1
  have hown := S.2.2.2.1
  have hts := S.2.2.2.2
  have hbA : ¬ (fun q : Nat => s.heap.size ≤ q) b := Nat.not_le.mpr hbl
  obtain ⟨σ, pa, sl, sv, pd, kn, ln, τ, ss, hh, pr, pd2, fr, su, hM, hE, hR⟩ := hW
  refine lv_aload_n hx hb dL_law_333 rfl (lv_at hl 2 rfl) ?_
  refine lv_aload_n hx hb dL_law_334 rfl (lv_at hl 3 rfl) ?_
  refine lv_iload_n hx hb dL_law_335 rfl (lv_at hl 0 rfl) ?_
  refine x_iconst hx hb dL_law_336 ?_
  refine x_iadd hx hb dL_law_337 ?_
  refine l_arg hx hb hX hbl hbA hS (i := i + 1) (by omega) hL dL_law_338 ?_
  obtain ⟨x, σ1, pa1, sl1, sv1, pd1, kn1, ln1, τ1, ss1, hh1, pr1, pd21, ln21, fr1, kp1, su1, h1, h2, h3⟩ := pr_write (l := l) (D := D) (cs := cs) (Nz := s.heap.size) (a := a) (am := am) (pr := pr) hR hI hm hea hN (zI_rng _)
  refine x_callVMz (As := [.int (zI (sx xs (i + 1)))]) (rest := []) S hK (kZ.keptS hZ hS (fun q h => h)) h1 (cwV 1 hts gL_law_X6_write rfl rfl rfl (by decide +kernel) ⟨(Nat.le_of_ble_eq_true rfl), (Nat.le_of_ble_eq_true rfl)⟩) (x_rc hK (eAt_0 hE) rfl) hE rfl hl.1 (Nat.le_of_ble_eq_true rfl) dL_law_339 ⟨(Nat.le_of_ble_eq_true rfl), (Nat.le_of_ble_eq_true rfl)⟩ hS hea (fun H locs hE hF hS => ?_)
  have hM : mAt D cs am σ pa sl sv pd kn ln H := bAt_F hM hF (fun j p q z => by
    obtain ⟨i2, p2, q2, z2⟩ := z
    exact hdis i2 j p2 q2 p q z2.symm)
  refine lv_aload_n hx hb dL_law_342 rfl (lv_at hl 1 rfl) ?_
  refine lv_aload_n hx hb dL_law_343 rfl (lv_at hl 3 rfl) ?_
  refine lv_iload_n hx hb dL_law_344 rfl (lv_at hl 0 rfl) ?_
  refine x_iconst hx hb dL_law_345 ?_
  refine x_iadd hx hb dL_law_346 ?_
  refine l_arg hx hb hX hbl hbA hS (i := i + 1) (by omega) hL dL_law_347 ?_
  refine x_callVM (As := [.int (zI (sx xs (i + 1)))]) (rest := [.int (zI x)]) S hK h2 (cwV 1 hts gL_law_X7_write rfl rfl rfl (by decide +kernel) ⟨(Nat.le_of_ble_eq_true rfl), (Nat.le_of_ble_eq_true rfl)⟩) (x_rc hK (mAt_0 hM) rfl) hM rfl hl.1 (Nat.le_of_ble_eq_true rfl) dL_law_348 ⟨(Nat.le_of_ble_eq_true rfl), (Nat.le_of_ble_eq_true rfl)⟩ hS hma (fun H locs hM hF hS => ?_)
  have hE : eAt D cs a τ1 ss1 hh1 pr1 pd21 ln21 fr1 kp1 su1 H := bAt_F hE hF (fun j p q z => by
    obtain ⟨i2, p2, q2, z2⟩ := z
    exact hdis j i2 p q p2 q2 z2)
  refine lv_icmp_eq (tgt := 791) hx hb dL_law_351 (by decide) (fun _ => ?_) (fun z => absurd rfl z)
  exact nx H locs (LW_mk hM hE h3) hS
set_option maxHeartbeats 4000000 in
set_option maxRecDepth 100000 in
theorem law_sign (C0 : LC p l s m meth c b L xs D cs a am) (hN : 0 ≤ N ∧ N ≤ 900000) {i : Int} (hi : 0 ≤ i ∧ i + 3 < L) (nx : ∀ (H : Heap) (locs : List Loc), LW D cs a am (N + 100) H → va_S (fun q : Nat => s.heap.size ≤ q) s.heap H locs → W p l e room_1 s m #[Value.ref b] below meth c H locs 244 3174 Q (F0 m 791 ls [])) (hW : LW D cs a am N H) (hS : va_S (fun q : Nat => s.heap.size ≤ q) s.heap H locs) (hl : lv_has ls 4 [(3, .int (zI i)), (2, .ref (am 0)), (1, .ref (a 0)), (0, .ref b)]) : W p l e room_1 s m #[Value.ref b] below meth c H locs 244 3174 Q (F0 m 356 ls []) := by
  obtain ⟨S, hK, hZ, hX, hbl, ⟨hI, hm⟩, hea, hma, hdis, hL⟩ := C0
  have hx := S.1
  have hb := S.2.1
  have hown := S.2.2.2.1
  have hts := S.2.2.2.2
  have hbA : ¬ (fun q : Nat => s.heap.size ≤ q) b := Nat.not_le.mpr hbl
  obtain ⟨σ, pa, sl, sv, pd, kn, ln, τ, ss, hh, pr, pd2, fr, su, hM, hE, hR⟩ := hW
  refine lv_aload_n hx hb dL_law_356 rfl (lv_at hl 2 rfl) ?_
  refine lv_aload_n hx hb dL_law_357 rfl (lv_at hl 3 rfl) ?_
  refine lv_iload_n hx hb dL_law_358 rfl (lv_at hl 0 rfl) ?_
  refine x_iconst hx hb dL_law_359 ?_
  refine x_iadd hx hb dL_law_360 ?_
  refine l_arg hx hb hX hbl hbA hS (i := i + 1) (by omega) hL dL_law_361 ?_
  obtain ⟨x, σ1, pa1, sl1, sv1, pd1, kn1, ln1, τ1, ss1, hh1, pr1, pd21, ln21, fr1, kp1, su1, h1, h2, h3⟩ := pr_sign (l := l) (D := D) (cs := cs) (Nz := s.heap.size) (a := a) (am := am) (pr := pr) hR hI hm hea hN (zI_rng _)
  refine x_callVMz (As := [.int (zI (sx xs (i + 1)))]) (rest := []) S hK (kZ.keptS hZ hS (fun q h => h)) h1 (cwV 1 hts gL_law_X6_sign rfl rfl rfl (by decide +kernel) ⟨(Nat.le_of_ble_eq_true rfl), (Nat.le_of_ble_eq_true rfl)⟩) (x_rc hK (eAt_0 hE) rfl) hE rfl hl.1 (Nat.le_of_ble_eq_true rfl) dL_law_362 ⟨(Nat.le_of_ble_eq_true rfl), (Nat.le_of_ble_eq_true rfl)⟩ hS hea (fun H locs hE hF hS => ?_)
  have hM : mAt D cs am σ pa sl sv pd kn ln H := bAt_F hM hF (fun j p q z => by
    obtain ⟨i2, p2, q2, z2⟩ := z
    exact hdis i2 j p2 q2 p q z2.symm)
  refine lv_aload_n hx hb dL_law_365 rfl (lv_at hl 1 rfl) ?_
  refine lv_aload_n hx hb dL_law_366 rfl (lv_at hl 3 rfl) ?_
  refine lv_iload_n hx hb dL_law_367 rfl (lv_at hl 0 rfl) ?_
  refine x_iconst hx hb dL_law_368 ?_
  refine x_iadd hx hb dL_law_369 ?_
  refine l_arg hx hb hX hbl hbA hS (i := i + 1) (by omega) hL dL_law_370 ?_
  refine x_callVM (As := [.int (zI (sx xs (i + 1)))]) (rest := [.int (zI x)]) S hK h2 (cwV 1 hts gL_law_X7_sign rfl rfl rfl (by decide +kernel) ⟨(Nat.le_of_ble_eq_true rfl), (Nat.le_of_ble_eq_true rfl)⟩) (x_rc hK (mAt_0 hM) rfl) hM rfl hl.1 (Nat.le_of_ble_eq_true rfl) dL_law_371 ⟨(Nat.le_of_ble_eq_true rfl), (Nat.le_of_ble_eq_true rfl)⟩ hS hma (fun H locs hM hF hS => ?_)
  have hE : eAt D cs a τ1 ss1 hh1 pr1 pd21 ln21 fr1 kp1 su1 H := bAt_F hE hF (fun j p q z => by
    obtain ⟨i2, p2, q2, z2⟩ := z
    exact hdis j i2 p q p2 q2 z2)
  refine lv_icmp_eq (tgt := 791) hx hb dL_law_374 (by decide) (fun _ => ?_) (fun z => absurd rfl z)
  exact nx H locs (LW_mk hM hE h3) hS
set_option maxHeartbeats 4000000 in
set_option maxRecDepth 100000 in
theorem law_of (C0 : LC p l s m meth c b L xs D cs a am) (hN : 0 ≤ N ∧ N ≤ 900000) {i : Int} (hi : 0 ≤ i ∧ i + 3 < L) (nx : ∀ (H : Heap) (locs : List Loc), LW D cs a am (N + 100) H → va_S (fun q : Nat => s.heap.size ≤ q) s.heap H locs → W p l e room_1 s m #[Value.ref b] below meth c H locs 244 3174 Q (F0 m 791 ls [])) (hW : LW D cs a am N H) (hS : va_S (fun q : Nat => s.heap.size ≤ q) s.heap H locs) (hl : lv_has ls 4 [(3, .int (zI i)), (2, .ref (am 0)), (1, .ref (a 0)), (0, .ref b)]) : W p l e room_1 s m #[Value.ref b] below meth c H locs 244 3174 Q (F0 m 379 ls []) := by
  obtain ⟨S, hK, hZ, hX, hbl, ⟨hI, hm⟩, hea, hma, hdis, hL⟩ := C0
  have hx := S.1
  have hb := S.2.1
  have hown := S.2.2.2.1
  have hts := S.2.2.2.2
  have hbA : ¬ (fun q : Nat => s.heap.size ≤ q) b := Nat.not_le.mpr hbl
  obtain ⟨σ, pa, sl, sv, pd, kn, ln, τ, ss, hh, pr, pd2, fr, su, hM, hE, hR⟩ := hW
  refine lv_aload_n hx hb dL_law_379 rfl (lv_at hl 2 rfl) ?_
  refine lv_aload_n hx hb dL_law_380 rfl (lv_at hl 3 rfl) ?_
  refine lv_iload_n hx hb dL_law_381 rfl (lv_at hl 0 rfl) ?_
  refine x_iconst hx hb dL_law_382 ?_
  refine x_iadd hx hb dL_law_383 ?_
  refine l_arg hx hb hX hbl hbA hS (i := i + 1) (by omega) hL dL_law_384 ?_
  refine lv_aload_n hx hb dL_law_385 rfl (lv_at hl 3 rfl) ?_
  refine lv_iload_n hx hb dL_law_386 rfl (lv_at hl 0 rfl) ?_
  refine x_iconst hx hb dL_law_387 ?_
  refine x_iadd hx hb dL_law_388 ?_
  refine l_arg hx hb hX hbl hbA hS (i := i + 2) (by omega) hL dL_law_389 ?_
  obtain ⟨x, σ1, pa1, sl1, sv1, pd1, kn1, ln1, τ1, ss1, hh1, pr1, pd21, ln21, fr1, kp1, su1, h1, h2, h3⟩ := pr_of (l := l) (D := D) (cs := cs) (Nz := s.heap.size) (a := a) (am := am) (pr := pr) hR hI hm hea hN (zI_rng _) (zI_rng _)
  refine x_callVMz (As := [.int (zI (sx xs (i + 1))), .int (zI (sx xs (i + 2)))]) (rest := []) S hK (kZ.keptS hZ hS (fun q h => h)) h1 (cwV 2 hts gL_law_X6_of rfl rfl rfl (by decide +kernel) ⟨(Nat.le_of_ble_eq_true rfl), (Nat.le_of_ble_eq_true rfl)⟩) (x_rc hK (eAt_0 hE) rfl) hE rfl hl.1 (Nat.le_of_ble_eq_true rfl) dL_law_390 ⟨(Nat.le_of_ble_eq_true rfl), (Nat.le_of_ble_eq_true rfl)⟩ hS hea (fun H locs hE hF hS => ?_)
  have hM : mAt D cs am σ pa sl sv pd kn ln H := bAt_F hM hF (fun j p q z => by
    obtain ⟨i2, p2, q2, z2⟩ := z
    exact hdis i2 j p2 q2 p q z2.symm)
  refine lv_aload_n hx hb dL_law_393 rfl (lv_at hl 1 rfl) ?_
  refine lv_aload_n hx hb dL_law_394 rfl (lv_at hl 3 rfl) ?_
  refine lv_iload_n hx hb dL_law_395 rfl (lv_at hl 0 rfl) ?_
  refine x_iconst hx hb dL_law_396 ?_
  refine x_iadd hx hb dL_law_397 ?_
  refine l_arg hx hb hX hbl hbA hS (i := i + 1) (by omega) hL dL_law_398 ?_
  refine lv_aload_n hx hb dL_law_399 rfl (lv_at hl 3 rfl) ?_
  refine lv_iload_n hx hb dL_law_400 rfl (lv_at hl 0 rfl) ?_
  refine x_iconst hx hb dL_law_401 ?_
  refine x_iadd hx hb dL_law_402 ?_
  refine l_arg hx hb hX hbl hbA hS (i := i + 2) (by omega) hL dL_law_403 ?_
  refine x_callVM (As := [.int (zI (sx xs (i + 1))), .int (zI (sx xs (i + 2)))]) (rest := [.int (zI x)]) S hK h2 (cwV 2 hts gL_law_X7_of rfl rfl rfl (by decide +kernel) ⟨(Nat.le_of_ble_eq_true rfl), (Nat.le_of_ble_eq_true rfl)⟩) (x_rc hK (mAt_0 hM) rfl) hM rfl hl.1 (Nat.le_of_ble_eq_true rfl) dL_law_404 ⟨(Nat.le_of_ble_eq_true rfl), (Nat.le_of_ble_eq_true rfl)⟩ hS hma (fun H locs hM hF hS => ?_)
  have hE : eAt D cs a τ1 ss1 hh1 pr1 pd21 ln21 fr1 kp1 su1 H := bAt_F hE hF (fun j p q z => by
    obtain ⟨i2, p2, q2, z2⟩ := z
    exact hdis j i2 p q p2 q2 z2)
  refine lv_icmp_eq (tgt := 791) hx hb dL_law_407 (by decide) (fun _ => ?_) (fun z => absurd rfl z)
  exact nx H locs (LW_mk hM hE h3) hS
set_option maxHeartbeats 4000000 in
set_option maxRecDepth 100000 in
theorem law_ofLoad (C0 : LC p l s m meth c b L xs D cs a am) (hN : 0 ≤ N ∧ N ≤ 900000) {i : Int} (hi : 0 ≤ i ∧ i + 3 < L) (nx : ∀ (H : Heap) (locs : List Loc), LW D cs a am (N + 100) H → va_S (fun q : Nat => s.heap.size ≤ q) s.heap H locs → W p l e room_1 s m #[Value.ref b] below meth c H locs 244 3174 Q (F0 m 791 ls [])) (hW : LW D cs a am N H) (hS : va_S (fun q : Nat => s.heap.size ≤ q) s.heap H locs) (hl : lv_has ls 4 [(3, .int (zI i)), (2, .ref (am 0)), (1, .ref (a 0)), (0, .ref b)]) : W p l e room_1 s m #[Value.ref b] below meth c H locs 244 3174 Q (F0 m 412 ls []) := by
  obtain ⟨S, hK, hZ, hX, hbl, ⟨hI, hm⟩, hea, hma, hdis, hL⟩ := C0
  have hx := S.1
  have hb := S.2.1
  have hown := S.2.2.2.1
  have hts := S.2.2.2.2
  have hbA : ¬ (fun q : Nat => s.heap.size ≤ q) b := Nat.not_le.mpr hbl
  obtain ⟨σ, pa, sl, sv, pd, kn, ln, τ, ss, hh, pr, pd2, fr, su, hM, hE, hR⟩ := hW
  refine lv_aload_n hx hb dL_law_412 rfl (lv_at hl 2 rfl) ?_
  refine lv_aload_n hx hb dL_law_413 rfl (lv_at hl 3 rfl) ?_
  refine lv_iload_n hx hb dL_law_414 rfl (lv_at hl 0 rfl) ?_
  refine x_iconst hx hb dL_law_415 ?_
  refine x_iadd hx hb dL_law_416 ?_
  refine l_arg hx hb hX hbl hbA hS (i := i + 1) (by omega) hL dL_law_417 ?_
  refine lv_aload_n hx hb dL_law_418 rfl (lv_at hl 3 rfl) ?_
  refine lv_iload_n hx hb dL_law_419 rfl (lv_at hl 0 rfl) ?_
  refine x_iconst hx hb dL_law_420 ?_
  refine x_iadd hx hb dL_law_421 ?_
  refine l_arg hx hb hX hbl hbA hS (i := i + 2) (by omega) hL dL_law_422 ?_
  obtain ⟨x, σ1, pa1, sl1, sv1, pd1, kn1, ln1, τ1, ss1, hh1, pr1, pd21, ln21, fr1, kp1, su1, h1, h2, h3⟩ := pr_ofLoad (l := l) (D := D) (cs := cs) (Nz := s.heap.size) (a := a) (am := am) (pr := pr) hR hI hm hea hN (zI_rng _) (zI_rng _)
  refine x_callVMz (As := [.int (zI (sx xs (i + 1))), .int (zI (sx xs (i + 2)))]) (rest := []) S hK (kZ.keptS hZ hS (fun q h => h)) h1 (cwV 2 hts gL_law_X6_ofLoad rfl rfl rfl (by decide +kernel) ⟨(Nat.le_of_ble_eq_true rfl), (Nat.le_of_ble_eq_true rfl)⟩) (x_rc hK (eAt_0 hE) rfl) hE rfl hl.1 (Nat.le_of_ble_eq_true rfl) dL_law_423 ⟨(Nat.le_of_ble_eq_true rfl), (Nat.le_of_ble_eq_true rfl)⟩ hS hea (fun H locs hE hF hS => ?_)
  have hM : mAt D cs am σ pa sl sv pd kn ln H := bAt_F hM hF (fun j p q z => by
    obtain ⟨i2, p2, q2, z2⟩ := z
    exact hdis i2 j p2 q2 p q z2.symm)
  refine lv_aload_n hx hb dL_law_426 rfl (lv_at hl 1 rfl) ?_
  refine lv_aload_n hx hb dL_law_427 rfl (lv_at hl 3 rfl) ?_
  refine lv_iload_n hx hb dL_law_428 rfl (lv_at hl 0 rfl) ?_
  refine x_iconst hx hb dL_law_429 ?_
  refine x_iadd hx hb dL_law_430 ?_
  refine l_arg hx hb hX hbl hbA hS (i := i + 1) (by omega) hL dL_law_431 ?_
  refine lv_aload_n hx hb dL_law_432 rfl (lv_at hl 3 rfl) ?_
  refine lv_iload_n hx hb dL_law_433 rfl (lv_at hl 0 rfl) ?_
  refine x_iconst hx hb dL_law_434 ?_
  refine x_iadd hx hb dL_law_435 ?_
  refine l_arg hx hb hX hbl hbA hS (i := i + 2) (by omega) hL dL_law_436 ?_
  refine x_callVM (As := [.int (zI (sx xs (i + 1))), .int (zI (sx xs (i + 2)))]) (rest := [.int (zI x)]) S hK h2 (cwV 2 hts gL_law_X7_ofLoad rfl rfl rfl (by decide +kernel) ⟨(Nat.le_of_ble_eq_true rfl), (Nat.le_of_ble_eq_true rfl)⟩) (x_rc hK (mAt_0 hM) rfl) hM rfl hl.1 (Nat.le_of_ble_eq_true rfl) dL_law_437 ⟨(Nat.le_of_ble_eq_true rfl), (Nat.le_of_ble_eq_true rfl)⟩ hS hma (fun H locs hM hF hS => ?_)
  have hE : eAt D cs a τ1 ss1 hh1 pr1 pd21 ln21 fr1 kp1 su1 H := bAt_F hE hF (fun j p q z => by
    obtain ⟨i2, p2, q2, z2⟩ := z
    exact hdis j i2 p q p2 q2 z2)
  refine lv_icmp_eq (tgt := 791) hx hb dL_law_440 (by decide) (fun _ => ?_) (fun z => absurd rfl z)
  exact nx H locs (LW_mk hM hE h3) hS
set_option maxHeartbeats 4000000 in
set_option maxRecDepth 100000 in
theorem law_misses (C0 : LC p l s m meth c b L xs D cs a am) (hN : 0 ≤ N ∧ N ≤ 900000) {i : Int} (hi : 0 ≤ i ∧ i + 3 < L) (nx : ∀ (H : Heap) (locs : List Loc), LW D cs a am (N + 100) H → va_S (fun q : Nat => s.heap.size ≤ q) s.heap H locs → W p l e room_1 s m #[Value.ref b] below meth c H locs 244 3174 Q (F0 m 791 ls [])) (hW : LW D cs a am N H) (hS : va_S (fun q : Nat => s.heap.size ≤ q) s.heap H locs) (hl : lv_has ls 4 [(3, .int (zI i)), (2, .ref (am 0)), (1, .ref (a 0)), (0, .ref b)]) : W p l e room_1 s m #[Value.ref b] below meth c H locs 244 3174 Q (F0 m 445 ls []) := by
  obtain ⟨S, hK, hZ, hX, hbl, ⟨hI, hm⟩, hea, hma, hdis, hL⟩ := C0
  have hx := S.1
  have hb := S.2.1
  have hown := S.2.2.2.1
  have hts := S.2.2.2.2
  have hbA : ¬ (fun q : Nat => s.heap.size ≤ q) b := Nat.not_le.mpr hbl
  obtain ⟨σ, pa, sl, sv, pd, kn, ln, τ, ss, hh, pr, pd2, fr, su, hM, hE, hR⟩ := hW
  refine lv_aload_n hx hb dL_law_445 rfl (lv_at hl 2 rfl) ?_
  refine lv_aload_n hx hb dL_law_446 rfl (lv_at hl 3 rfl) ?_
  refine lv_iload_n hx hb dL_law_447 rfl (lv_at hl 0 rfl) ?_
  refine x_iconst hx hb dL_law_448 ?_
  refine x_iadd hx hb dL_law_449 ?_
  refine l_arg hx hb hX hbl hbA hS (i := i + 1) (by omega) hL dL_law_450 ?_
  obtain ⟨x, σ1, pa1, sl1, sv1, pd1, kn1, ln1, τ1, ss1, hh1, pr1, pd21, ln21, fr1, kp1, su1, h1, h2, h3⟩ := pr_misses (l := l) (D := D) (cs := cs) (Nz := s.heap.size) (a := a) (am := am) (pr := pr) hR hI hm hea hN (zI_rng _)
  refine x_callVMz (As := [.int (zI (sx xs (i + 1)))]) (rest := []) S hK (kZ.keptS hZ hS (fun q h => h)) h1 (cwV 1 hts gL_law_X6_misses rfl rfl rfl (by decide +kernel) ⟨(Nat.le_of_ble_eq_true rfl), (Nat.le_of_ble_eq_true rfl)⟩) (x_rc hK (eAt_0 hE) rfl) hE rfl hl.1 (Nat.le_of_ble_eq_true rfl) dL_law_451 ⟨(Nat.le_of_ble_eq_true rfl), (Nat.le_of_ble_eq_true rfl)⟩ hS hea (fun H locs hE hF hS => ?_)
  have hM : mAt D cs am σ pa sl sv pd kn ln H := bAt_F hM hF (fun j p q z => by
    obtain ⟨i2, p2, q2, z2⟩ := z
    exact hdis i2 j p2 q2 p q z2.symm)
  refine lv_aload_n hx hb dL_law_454 rfl (lv_at hl 1 rfl) ?_
  refine lv_aload_n hx hb dL_law_455 rfl (lv_at hl 3 rfl) ?_
  refine lv_iload_n hx hb dL_law_456 rfl (lv_at hl 0 rfl) ?_
  refine x_iconst hx hb dL_law_457 ?_
  refine x_iadd hx hb dL_law_458 ?_
  refine l_arg hx hb hX hbl hbA hS (i := i + 1) (by omega) hL dL_law_459 ?_
  refine x_callVM (As := [.int (zI (sx xs (i + 1)))]) (rest := [.long (zL x)]) S hK h2 (cwV 1 hts gL_law_X7_misses rfl rfl rfl (by decide +kernel) ⟨(Nat.le_of_ble_eq_true rfl), (Nat.le_of_ble_eq_true rfl)⟩) (x_rc hK (mAt_0 hM) rfl) hM rfl hl.1 (Nat.le_of_ble_eq_true rfl) dL_law_460 ⟨(Nat.le_of_ble_eq_true rfl), (Nat.le_of_ble_eq_true rfl)⟩ hS hma (fun H locs hM hF hS => ?_)
  have hE : eAt D cs a τ1 ss1 hh1 pr1 pd21 ln21 fr1 kp1 su1 H := bAt_F hE hF (fun j p q z => by
    obtain ⟨i2, p2, q2, z2⟩ := z
    exact hdis j i2 p q p2 q2 z2)
  refine W.lcmp hx hb dL_law_463 ?_
  rw [cmp_self]
  refine lv_if_eq (tgt := 791) hx hb dL_law_464 (by decide) (fun _ => ?_) (fun z => absurd rfl z)
  exact nx H locs (LW_mk hM hE h3) hS
set_option maxHeartbeats 4000000 in
set_option maxRecDepth 100000 in
theorem law_fed (C0 : LC p l s m meth c b L xs D cs a am) (hN : 0 ≤ N ∧ N ≤ 900000) {i : Int} (hi : 0 ≤ i ∧ i + 3 < L) (nx : ∀ (H : Heap) (locs : List Loc), LW D cs a am (N + 100) H → va_S (fun q : Nat => s.heap.size ≤ q) s.heap H locs → W p l e room_1 s m #[Value.ref b] below meth c H locs 244 3174 Q (F0 m 791 ls [])) (hW : LW D cs a am N H) (hS : va_S (fun q : Nat => s.heap.size ≤ q) s.heap H locs) (hl : lv_has ls 4 [(3, .int (zI i)), (2, .ref (am 0)), (1, .ref (a 0)), (0, .ref b)]) : W p l e room_1 s m #[Value.ref b] below meth c H locs 244 3174 Q (F0 m 469 ls []) := by
  obtain ⟨S, hK, hZ, hX, hbl, ⟨hI, hm⟩, hea, hma, hdis, hL⟩ := C0
  have hx := S.1
  have hb := S.2.1
  have hown := S.2.2.2.1
  have hts := S.2.2.2.2
  have hbA : ¬ (fun q : Nat => s.heap.size ≤ q) b := Nat.not_le.mpr hbl
  obtain ⟨σ, pa, sl, sv, pd, kn, ln, τ, ss, hh, pr, pd2, fr, su, hM, hE, hR⟩ := hW
  refine lv_aload_n hx hb dL_law_469 rfl (lv_at hl 2 rfl) ?_
  refine lv_aload_n hx hb dL_law_470 rfl (lv_at hl 3 rfl) ?_
  refine lv_iload_n hx hb dL_law_471 rfl (lv_at hl 0 rfl) ?_
  refine x_iconst hx hb dL_law_472 ?_
  refine x_iadd hx hb dL_law_473 ?_
  refine l_arg hx hb hX hbl hbA hS (i := i + 1) (by omega) hL dL_law_474 ?_
  obtain ⟨x, σ1, pa1, sl1, sv1, pd1, kn1, ln1, τ1, ss1, hh1, pr1, pd21, ln21, fr1, kp1, su1, h1, h2, h3⟩ := pr_fed (l := l) (D := D) (cs := cs) (Nz := s.heap.size) (a := a) (am := am) (pr := pr) hR hI hm hea hN (zI_rng _)
  refine x_callVMz (As := [.int (zI (sx xs (i + 1)))]) (rest := []) S hK (kZ.keptS hZ hS (fun q h => h)) h1 (cwV 1 hts gL_law_X6_fed rfl rfl rfl (by decide +kernel) ⟨(Nat.le_of_ble_eq_true rfl), (Nat.le_of_ble_eq_true rfl)⟩) (x_rc hK (eAt_0 hE) rfl) hE rfl hl.1 (Nat.le_of_ble_eq_true rfl) dL_law_475 ⟨(Nat.le_of_ble_eq_true rfl), (Nat.le_of_ble_eq_true rfl)⟩ hS hea (fun H locs hE hF hS => ?_)
  have hM : mAt D cs am σ pa sl sv pd kn ln H := bAt_F hM hF (fun j p q z => by
    obtain ⟨i2, p2, q2, z2⟩ := z
    exact hdis i2 j p2 q2 p q z2.symm)
  refine lv_aload_n hx hb dL_law_478 rfl (lv_at hl 1 rfl) ?_
  refine lv_aload_n hx hb dL_law_479 rfl (lv_at hl 3 rfl) ?_
  refine lv_iload_n hx hb dL_law_480 rfl (lv_at hl 0 rfl) ?_
  refine x_iconst hx hb dL_law_481 ?_
  refine x_iadd hx hb dL_law_482 ?_
  refine l_arg hx hb hX hbl hbA hS (i := i + 1) (by omega) hL dL_law_483 ?_
  refine x_callVM (As := [.int (zI (sx xs (i + 1)))]) (rest := [.int (zI x)]) S hK h2 (cwV 1 hts gL_law_X7_fed rfl rfl rfl (by decide +kernel) ⟨(Nat.le_of_ble_eq_true rfl), (Nat.le_of_ble_eq_true rfl)⟩) (x_rc hK (mAt_0 hM) rfl) hM rfl hl.1 (Nat.le_of_ble_eq_true rfl) dL_law_484 ⟨(Nat.le_of_ble_eq_true rfl), (Nat.le_of_ble_eq_true rfl)⟩ hS hma (fun H locs hM hF hS => ?_)
  have hE : eAt D cs a τ1 ss1 hh1 pr1 pd21 ln21 fr1 kp1 su1 H := bAt_F hE hF (fun j p q z => by
    obtain ⟨i2, p2, q2, z2⟩ := z
    exact hdis j i2 p q p2 q2 z2)
  refine lv_icmp_eq (tgt := 791) hx hb dL_law_487 (by decide) (fun _ => ?_) (fun z => absurd rfl z)
  exact nx H locs (LW_mk hM hE h3) hS
set_option maxHeartbeats 4000000 in
set_option maxRecDepth 100000 in
theorem law_count (C0 : LC p l s m meth c b L xs D cs a am) (hN : 0 ≤ N ∧ N ≤ 900000) {i : Int} (hi : 0 ≤ i ∧ i + 3 < L) (nx : ∀ (H : Heap) (locs : List Loc), LW D cs a am (N + 100) H → va_S (fun q : Nat => s.heap.size ≤ q) s.heap H locs → W p l e room_1 s m #[Value.ref b] below meth c H locs 244 3174 Q (F0 m 791 ls [])) (hW : LW D cs a am N H) (hS : va_S (fun q : Nat => s.heap.size ≤ q) s.heap H locs) (hl : lv_has ls 4 [(3, .int (zI i)), (2, .ref (am 0)), (1, .ref (a 0)), (0, .ref b)]) : W p l e room_1 s m #[Value.ref b] below meth c H locs 244 3174 Q (F0 m 492 ls []) := by
  obtain ⟨S, hK, hZ, hX, hbl, ⟨hI, hm⟩, hea, hma, hdis, hL⟩ := C0
  have hx := S.1
  have hb := S.2.1
  have hown := S.2.2.2.1
  have hts := S.2.2.2.2
  have hbA : ¬ (fun q : Nat => s.heap.size ≤ q) b := Nat.not_le.mpr hbl
  obtain ⟨σ, pa, sl, sv, pd, kn, ln, τ, ss, hh, pr, pd2, fr, su, hM, hE, hR⟩ := hW
  refine lv_aload_n hx hb dL_law_492 rfl (lv_at hl 2 rfl) ?_
  refine lv_aload_n hx hb dL_law_493 rfl (lv_at hl 3 rfl) ?_
  refine lv_iload_n hx hb dL_law_494 rfl (lv_at hl 0 rfl) ?_
  refine x_iconst hx hb dL_law_495 ?_
  refine x_iadd hx hb dL_law_496 ?_
  refine l_arg hx hb hX hbl hbA hS (i := i + 1) (by omega) hL dL_law_497 ?_
  obtain ⟨x, σ1, pa1, sl1, sv1, pd1, kn1, ln1, τ1, ss1, hh1, pr1, pd21, ln21, fr1, kp1, su1, h1, h2, h3⟩ := pr_count (l := l) (D := D) (cs := cs) (Nz := s.heap.size) (a := a) (am := am) (pr := pr) hR hI hm hea hN (zI_rng _)
  refine x_callVMz (As := [.int (zI (sx xs (i + 1)))]) (rest := []) S hK (kZ.keptS hZ hS (fun q h => h)) h1 (cwV 1 hts gL_law_X6_count rfl rfl rfl (by decide +kernel) ⟨(Nat.le_of_ble_eq_true rfl), (Nat.le_of_ble_eq_true rfl)⟩) (x_rc hK (eAt_0 hE) rfl) hE rfl hl.1 (Nat.le_of_ble_eq_true rfl) dL_law_498 ⟨(Nat.le_of_ble_eq_true rfl), (Nat.le_of_ble_eq_true rfl)⟩ hS hea (fun H locs hE hF hS => ?_)
  have hM : mAt D cs am σ pa sl sv pd kn ln H := bAt_F hM hF (fun j p q z => by
    obtain ⟨i2, p2, q2, z2⟩ := z
    exact hdis i2 j p2 q2 p q z2.symm)
  refine lv_aload_n hx hb dL_law_501 rfl (lv_at hl 1 rfl) ?_
  refine lv_aload_n hx hb dL_law_502 rfl (lv_at hl 3 rfl) ?_
  refine lv_iload_n hx hb dL_law_503 rfl (lv_at hl 0 rfl) ?_
  refine x_iconst hx hb dL_law_504 ?_
  refine x_iadd hx hb dL_law_505 ?_
  refine l_arg hx hb hX hbl hbA hS (i := i + 1) (by omega) hL dL_law_506 ?_
  refine x_callVM (As := [.int (zI (sx xs (i + 1)))]) (rest := [.int (zI x)]) S hK h2 (cwV 1 hts gL_law_X7_count rfl rfl rfl (by decide +kernel) ⟨(Nat.le_of_ble_eq_true rfl), (Nat.le_of_ble_eq_true rfl)⟩) (x_rc hK (mAt_0 hM) rfl) hM rfl hl.1 (Nat.le_of_ble_eq_true rfl) dL_law_507 ⟨(Nat.le_of_ble_eq_true rfl), (Nat.le_of_ble_eq_true rfl)⟩ hS hma (fun H locs hM hF hS => ?_)
  have hE : eAt D cs a τ1 ss1 hh1 pr1 pd21 ln21 fr1 kp1 su1 H := bAt_F hE hF (fun j p q z => by
    obtain ⟨i2, p2, q2, z2⟩ := z
    exact hdis j i2 p q p2 q2 z2)
  refine lv_icmp_eq (tgt := 791) hx hb dL_law_510 (by decide) (fun _ => ?_) (fun z => absurd rfl z)
  exact nx H locs (LW_mk hM hE h3) hS
end LA
