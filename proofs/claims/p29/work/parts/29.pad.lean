/-! the Pad: 0 the object, 1 its characters -/
def pcell (cs : Nat → ClassId) (a : Int → Nat) (pd : Int → Int) (ln : Int) (i : Int) : va_E := if i = 0 then .inr (4, [.ref (a 1), .int (zI ln)]) else if i = 1 then .inl (cs 3, (80, .inl fun k : Nat => zI (pd k))) else .inl (cs 0, (0, .inl fun _ => 0))
def pAt (D : va_G) (cs : Nat → ClassId) (a : Int → Nat) (pd : Int → Int) (ln : Int) (H : Heap) : Prop := bAt D 2 a (pcell cs a pd ln) H
abbrev pI2 (a : Int → Nat) : Prop := bI 2 a
abbrev pC2 (a : Int → Nat) : Nat → Prop := bC 2 a
theorem pAt_0 {D : va_G} {cs : Nat → ClassId} {a : Int → Nat} {pd : Int → Int} {ln : Int} {H : Heap} (h : pAt D cs a pd ln H) : va_at D vwCl (a 0, .inr (4, [.ref (a 1), .int (zI ln)])) H := h 0 (by decide) (by decide)
theorem pAt_1 {D : va_G} {cs : Nat → ClassId} {a : Int → Nat} {pd : Int → Int} {ln : Int} {H : Heap} (h : pAt D cs a pd ln H) : H[a 1]? = some (vp_cell (cs 3) (80, .inl fun k : Nat => zI (pd k))) := h 1 (by decide) (by decide)
theorem pAt_cong {D : va_G} {cs : Nat → ClassId} {a : Int → Nat} {pd pd2 : Int → Int} {ln ln2 : Int} {H : Heap} (h : pAt D cs a pd ln H) (h1 : pd = pd2) (h2 : ln = ln2) : pAt D cs a pd2 ln2 H := by
  subst h1; subst h2
  exact h
theorem pAt_F {D : va_G} {cs : Nat → ClassId} {A : Nat → Prop} {a : Int → Nat} {pd : Int → Int} {ln : Int} {H H1 : Heap} (h : pAt D cs a pd ln H) (hF : kF A H H1) (hA : ∀ i : Int, 0 ≤ i → i < 2 → ¬ A (a i)) : pAt D cs a pd ln H1 := bAt_F h hF hA
/-! chars -/
theorem zI_ch {e : Int} (h : 0 ≤ e ∧ e < 65536) : narrow .char (.int (zI e)) = .int (zI e) := by
  obtain ⟨n, rfl⟩ : ∃ n : Nat, e = n := ⟨e.toNat, by omega⟩
  rw [zI_nat]
  exact (pk_charN (by omega)).1
theorem zI_i2c {e : Int} (h : 0 ≤ e ∧ e < 65536) : ((zI e).toUInt32 % 65536).toInt32 = zI e := by
  obtain ⟨n, rfl⟩ : ∃ n : Nat, e = n := ⟨e.toNat, by omega⟩
  rw [zI_nat, pk_char]
  congr 1
  show (BitVec.ofNat 32 n).toNat % 65536 = n
  rw [BitVec.toNat_ofNat]
  omega
/-- the shift without sign: by whole bytes -/
def usr (x k : Int) : Int := if k = 0 then x else x % 18446744073709551616 / 2 ^ (8 * k).toNat
theorem usr_rng {x k : Int} (hx : -9223372036854775808 ≤ x ∧ x < 9223372036854775808) (hk : 0 ≤ k ∧ k ≤ 7) : -9223372036854775808 ≤ usr x k ∧ usr x k < 9223372036854775808 := by
  unfold usr
  split
  · exact hx
  · rcases (show k = 1 ∨ k = 2 ∨ k = 3 ∨ k = 4 ∨ k = 5 ∨ k = 6 ∨ k = 7 by omega) with h | h | h | h | h | h | h <;> subst h <;> simp <;> omega
theorem usr_byS {x k : Int} (hk : 0 ≤ k ∧ k ≤ 7) : usr x k % 256 = byS x k := by
  unfold usr byS
  rcases (show k = 0 ∨ k = 1 ∨ k = 2 ∨ k = 3 ∨ k = 4 ∨ k = 5 ∨ k = 6 ∨ k = 7 by omega) with h | h | h | h | h | h | h | h <;> subst h <;> simp <;> omega
theorem zL_ushr {x k : Int} (hk : 0 ≤ k ∧ k ≤ 7) : ((zL x).toUInt64 >>> ((zI (8 * k)).toInt64.toUInt64 &&& Int64.toUInt64 63)).toInt64 = zL (usr x k) := by
  have hs : ((((zI (8 * k)).toInt64.toUInt64 &&& Int64.toUInt64 63)).toNat % 64) = (8 * k).toNat := by
    rcases (show k = 0 ∨ k = 1 ∨ k = 2 ∨ k = 3 ∨ k = 4 ∨ k = 5 ∨ k = 6 ∨ k = 7 by omega) with h | h | h | h | h | h | h | h <;> subst h <;> first | rfl | decide +kernel
  apply Int64.toBitVec.inj
  apply BitVec.eq_of_toNat_eq
  show ((zL x).toUInt64 >>> ((zI (8 * k)).toInt64.toUInt64 &&& Int64.toUInt64 63)).toNat = (BitVec.ofInt 64 (usr x k)).toNat
  rw [UInt64.toNat_shiftRight, hs, show (zL x).toUInt64.toNat = (BitVec.ofInt 64 x).toNat from rfl, BitVec.toNat_ofInt, BitVec.toNat_ofInt, Nat.shiftRight_eq_div_pow]
  unfold usr
  rcases (show k = 0 ∨ k = 1 ∨ k = 2 ∨ k = 3 ∨ k = 4 ∨ k = 5 ∨ k = 6 ∨ k = 7 by omega) with h | h | h | h | h | h | h | h <;> subst h <;> simp <;> omega
section PR
variable {p : Program} {l : Launch} {e : Env} {R : Room} {s : State} {m : MethodId} {args : Array Value} {below : List Frame} {meth : Method} {c : Code} {H : Heap} {locs : List Loc} {cells slots : Nat} {Q : State → Prop} {cc : ByteArray} {pc : Nat} {ls : Array Slot} {rest : List Value} {D : va_G} {cs : Nat → ClassId}
variable {a : Int → Nat} {pd : Int → Int} {ln : Int} {Ts : List Cond} {own : String} {nL index : Nat} {H0 : Heap} {A : Nat → Prop}
theorem x_i2c (hx : p.tables.exec = Jvm.exec) (hb : c.code = cc) {a : Int} (ha : 0 ≤ a ∧ a < 65536) (d : decode cc pc = .ok (.i2c, 1)) (k : W p l e R s m args below meth c H locs cells slots Q (F0 m (pc + 1) ls (.int (zI a) :: rest))) : W p l e R s m args below meth c H locs cells slots Q (F0 m pc ls (.int (zI a) :: rest)) := lv_i2c hx hb d (zI_i2c ha) k
theorem x_lushr (hx : p.tables.exec = Jvm.exec) (hb : c.code = cc) {x k : Int} (hk : 0 ≤ k ∧ k ≤ 7) (d : decode cc pc = .ok (.lushr, 1)) (kk : W p l e R s m args below meth c H locs cells slots Q (F0 m (pc + 1) ls (.long (zL (usr x k)) :: rest))) : W p l e R s m args below meth c H locs cells slots Q (F0 m pc ls (.int (zI (8 * k)) :: .long (zL x) :: rest)) := lv_lushr hx hb d (zL_ushr hk) kk
theorem x_cretR (hx : p.tables.exec = Jvm.exec) (hb : c.code = cc) (hr : meth.sig.returnType = some .char) (hlocks : meth.locks = false) {e0 e1 : Int} (he : e0 = e1) (h01 : 0 ≤ e0 ∧ e0 < 65536) (hH : H = s.heap) (d : decode cc pc = .ok (.ireturn, 1)) : W p l e R s m args below meth c H [] 0 0 (MQ below (kS (some (.int (zI e1)))) args s 0 0 (fun _ => False)) (F0 m pc ls [.int (zI e0)]) := by
  subst he
  exact W.zret (v := zI e0) hx hb hr (zI_ch h01) (fun t ht _ => ⟨rfl, by rw [ht, hH]⟩) (fun _ h => by cases h) d hlocks
theorem p_g_signs (S : CallFix p m c cc nL s args Ts own) (hin : ∀ w ∈ wsX50, w ∈ Ts) (hK : kK D cs s) (hP : pAt D cs a pd ln H) (hlink : (Cond.fieldLink own index "EnergyDiscs$Pad" "signs" "[C").before args s = true) (d : decode cc pc = .ok (.getfield index, 3)) (kk : W p l e R s m args below meth c H locs cells slots Q (F0 m (pc + 3) ls (.ref (a 1) :: rest))) : W p l e R s m args below meth c H locs cells slots Q (F0 m pc ls (.ref (a 0) :: rest)) := x_get (C := RX5) (T := TX5) (N := 2) S.1 S.2.1 S.2.2.2.2 hin S.2.2.2.1 hK (pAt_0 hP) rfl 0 (by decide) hlink rfl d kk
theorem p_g_length (S : CallFix p m c cc nL s args Ts own) (hin : ∀ w ∈ wsX50, w ∈ Ts) (hK : kK D cs s) (hP : pAt D cs a pd ln H) (hlink : (Cond.fieldLink own index "EnergyDiscs$Pad" "length" "I").before args s = true) (d : decode cc pc = .ok (.getfield index, 3)) (kk : W p l e R s m args below meth c H locs cells slots Q (F0 m (pc + 3) ls (.int (zI ln) :: rest))) : W p l e R s m args below meth c H locs cells slots Q (F0 m pc ls (.ref (a 0) :: rest)) := x_get (C := RX5) (T := TX5) (N := 2) S.1 S.2.1 S.2.2.2.2 hin S.2.2.2.1 hK (pAt_0 hP) rfl 1 (by decide) hlink rfl d kk
theorem p_p_length (S : CallFix p m c cc nL s args Ts own) (hin : ∀ w ∈ wsX50, w ∈ Ts) (hK : kK D cs s) (hP : pAt D cs a pd ln H) (hI : pI2 a) (hS : va_S A H0 H locs) (hA : A (a 0)) (hlink : (Cond.fieldLink own index "EnergyDiscs$Pad" "length" "I").before args s = true) {v : Int} (d : decode cc pc = .ok (.putfield index, 3)) (kk : ∀ (H1 : Heap) (locs1 : List Loc), pAt D cs a pd v H1 → kF (oneC (a 0)) H H1 → va_S A H0 H1 locs1 → W p l e R s m args below meth c H1 locs1 cells slots Q (F0 m (pc + 3) ls rest)) : W p l e R s m args below meth c H locs cells slots Q (F0 m pc ls (.int (zI v) :: .ref (a 0) :: rest)) :=
  x_put (C := RX5) (T := TX5) (N := 2) S.1 S.2.1 S.2.2.2.2 hin tyX5 tyX5_ok nmX5 S.2.2.2.1 hK (pAt_0 hP) rfl 1 (by decide) hlink rfl rfl rfl (by show 1 < 2; decide) d (fun H1 j e z oq => kk H1 _ (bAt_set (j := 0) hP hI (by decide) (by decide) e (fun i hi => by simp only [pcell, hi, if_false]) oq) (kF_put z oq) (hS.put z oq hA))
theorem p_l (S : CallFix p m c cc nL s args Ts own) (hK : kK D cs s) (hP : pAt D cs a pd ln H) {i : Int} (hi : 0 ≤ i ∧ i < 80) (d : decode cc pc = .ok (.caload, 1)) (kk : W p l e R s m args below meth c H locs cells slots Q (F0 m (pc + 1) ls (.int (zI (pd i)) :: rest))) : W p l e R s m args below meth c H locs cells slots Q (F0 m pc ls (.int (zI i) :: .ref (a 1) :: rest)) := x_cald S.1 S.2.1 hK (pAt_1 hP) hi (by decide) d (by rw [show ((i.toNat : Nat) : Int) = i by omega]; exact kk)
theorem p_s (S : CallFix p m c cc nL s args Ts own) (hK : kK D cs s) (hP : pAt D cs a pd ln H) (hI : pI2 a) (hS : va_S A H0 H locs) (hA : A (a 1)) {i v : Int} (hv : 0 ≤ v ∧ v < 65536) (hi : 0 ≤ i ∧ i < 80) (d : decode cc pc = .ok (.castore, 1)) (kk : ∀ (H1 : Heap) (locs1 : List Loc), pAt D cs a (up pd i v) ln H1 → kF (oneC (a 1)) H H1 → va_S A H0 H1 locs1 → W p l e R s m args below meth c H1 locs1 cells slots Q (F0 m (pc + 1) ls rest)) : W p l e R s m args below meth c H locs cells slots Q (F0 m pc ls (.int (zI v) :: .int (zI i) :: .ref (a 1) :: rest)) :=
  x_cast S.1 S.2.1 hK (pAt_1 hP) (zI_ch hv) hi (by decide) d (fun H1 j e z oq => kk H1 _ (bAt_set (j := 1) hP hI (by decide) (by decide) (by rw [updI_u _ _ _ hi.1] at e; exact e) (fun i hi => by simp only [pcell, hi, if_false]) oq) (kF_put z oq) (hS.put z oq hA))
end PR
