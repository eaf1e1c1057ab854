/-! numbers: an int of the machine is zI of an Int, a long zL of one -/
def zI (x : Int) : Int32 := Int32.ofInt x
def zL (x : Int) : Int64 := Int64.ofInt x
theorem zI_def (x : Int) : Int32.ofInt x = zI x := rfl
theorem zI_add (a b : Int) : zI a + zI b = zI (a + b) := (Int32.ofInt_add a b).symm
theorem zI_sub (a b : Int) : zI a - zI b = zI (a - b) := (Int32.ofInt_sub a b).symm
theorem zI_mul (a b : Int) : zI a * zI b = zI (a * b) := (Int32.ofInt_mul a b).symm
theorem zL_add (a b : Int) : zL a + zL b = zL (a + b) := (Int64.ofInt_add a b).symm
theorem zL_sub (a b : Int) : zL a - zL b = zL (a - b) := (Int64.ofInt_sub a b).symm
theorem zL_mul (a b : Int) : zL a * zL b = zL (a * b) := (Int64.ofInt_mul a b).symm
theorem zI_toInt {x : Int} (h : -2147483648 ≤ x ∧ x < 2147483648) : (zI x).toInt = x := Int32.toInt_ofInt_of_le (by omega) (by omega)
theorem zL_toInt {x : Int} (h : -9223372036854775808 ≤ x ∧ x < 9223372036854775808) : (zL x).toInt = x := Int64.toInt_ofInt_of_le (by omega) (by omega)
theorem zI_of (v : Int32) : zI v.toInt = v := Int32.ofInt_toInt v
theorem zL_of (v : Int64) : zL v.toInt = v := Int64.ofInt_toInt v
theorem zI_rng (v : Int32) : -2147483648 ≤ v.toInt ∧ v.toInt < 2147483648 := ⟨by have := Int32.le_toInt v; omega, by have := Int32.toInt_lt v; omega⟩
theorem zL_rng (v : Int64) : -9223372036854775808 ≤ v.toInt ∧ v.toInt < 9223372036854775808 := ⟨by have := Int64.le_toInt v; omega, by have := Int64.toInt_lt v; omega⟩
theorem zI_eq {x y : Int} (hx : -2147483648 ≤ x ∧ x < 2147483648) (hy : -2147483648 ≤ y ∧ y < 2147483648) : zI x = zI y ↔ x = y := by
  rw [← Int32.toInt_inj, zI_toInt hx, zI_toInt hy]
theorem zI_lt {x y : Int} (hx : -2147483648 ≤ x ∧ x < 2147483648) (hy : -2147483648 ≤ y ∧ y < 2147483648) : zI x < zI y ↔ x < y := by
  rw [Int32.lt_iff_toInt_lt, zI_toInt hx, zI_toInt hy]
theorem zI_le {x y : Int} (hx : -2147483648 ≤ x ∧ x < 2147483648) (hy : -2147483648 ≤ y ∧ y < 2147483648) : zI x ≤ zI y ↔ x ≤ y := by
  rw [Int32.le_iff_toInt_le, zI_toInt hx, zI_toInt hy]
theorem zL_eq {x y : Int} (hx : -9223372036854775808 ≤ x ∧ x < 9223372036854775808) (hy : -9223372036854775808 ≤ y ∧ y < 9223372036854775808) : zL x = zL y ↔ x = y := by
  rw [← Int64.toInt_inj, zL_toInt hx, zL_toInt hy]
theorem zL_lt {x y : Int} (hx : -9223372036854775808 ≤ x ∧ x < 9223372036854775808) (hy : -9223372036854775808 ≤ y ∧ y < 9223372036854775808) : zL x < zL y ↔ x < y := by
  rw [Int64.lt_iff_toInt_lt, zL_toInt hx, zL_toInt hy]
theorem zI_clamp {x : Int} (h : 0 ≤ x ∧ x < 2147483648) : (zI x).toNatClampNeg = x.toNat := by
  rw [← Int32.toNat_toInt, zI_toInt (by omega)]
theorem zI_0 : zI 0 = 0 := rfl
theorem zI_in {x : Int} {n : Nat} (h : 0 ≤ x ∧ x < n) (hn : n < 2147483648) : vp_in (zI x) n := by
  intro q
  rw [zI_clamp (by omega)] at q
  rcases q with q | q
  · rw [← zI_0, zI_lt (by omega) (by omega)] at q
    omega
  · omega
theorem zI_div {a b : Int} (ha : 0 ≤ a ∧ a < 2147483648) (hb : 0 < b ∧ b < 2147483648) : zI a / zI b = zI (a / b) := by
  show Int32.ofInt a / Int32.ofInt b = Int32.ofInt (a / b)
  have m1 : Int32.minValue.toInt = -2147483648 := by decide
  have m2 : Int32.maxValue.toInt = 2147483647 := by decide
  rw [← Int32.ofInt_tdiv (by rw [m1]; omega) (by rw [m2]; omega) (by rw [m1]; omega) (by rw [m2]; omega), Int.tdiv_eq_ediv_of_nonneg ha.1]
theorem zL_div {a b : Int} (ha : 0 ≤ a ∧ a < 9223372036854775808) (hb : 0 < b ∧ b < 9223372036854775808) : zL a / zL b = zL (a / b) := by
  show Int64.ofInt a / Int64.ofInt b = Int64.ofInt (a / b)
  have m1 : Int64.minValue.toInt = -9223372036854775808 := by decide
  have m2 : Int64.maxValue.toInt = 9223372036854775807 := by decide
  rw [← Int64.ofInt_tdiv (by rw [m1]; omega) (by rw [m2]; omega) (by rw [m1]; omega) (by rw [m2]; omega), Int.tdiv_eq_ediv_of_nonneg ha.1]
theorem zI_rem {a b : Int} (ha : 0 ≤ a ∧ a < 2147483648) (hb : 0 < b ∧ b < 2147483648) : zI a - zI a / zI b * zI b = zI (a % b) := by
  rw [zI_div ha hb, zI_mul, zI_sub]
  congr 1
  have := Int.mul_ediv_add_emod a b
  rw [Int.mul_comm] at this
  omega
theorem zL_rem {a b : Int} (ha : 0 ≤ a ∧ a < 9223372036854775808) (hb : 0 < b ∧ b < 9223372036854775808) : zL a - zL a / zL b * zL b = zL (a % b) := by
  rw [zL_div ha hb, zL_mul, zL_sub]
  congr 1
  have := Int.mul_ediv_add_emod a b
  rw [Int.mul_comm] at this
  omega
theorem zI_ne0 {b : Int} (hb : 0 < b ∧ b < 2147483648) : ¬ zI b = 0 := by
  rw [← zI_0, zI_eq (by omega) (by omega)]; omega
theorem zL_ne0 {b : Int} (hb : 0 < b ∧ b < 9223372036854775808) : ¬ zL b = 0 := by
  rw [show (0 : Int64) = zL 0 from rfl, zL_eq (by omega) (by omega)]; omega
theorem zI_l {x : Int} (h : -2147483648 ≤ x ∧ x < 2147483648) : (zI x).toInt64 = zL x := by
  have m1 : Int32.minValue.toInt = -2147483648 := by decide
  have m2 : Int32.maxValue.toInt = 2147483647 := by decide
  exact Int32.toInt64_ofInt (by rw [m1]; omega) (by rw [m2]; omega)
theorem zL_i (x : Int) : (zL x).toInt32 = zI x := Int64.toInt32_ofInt
theorem zI_neg (x : Int) : - zI x = zI (-x) := Int32.neg_ofInt
/-- what lcmp answers -/
theorem zcmp {a b : Int} (ha : -9223372036854775808 ≤ a ∧ a < 9223372036854775808) (hb : -9223372036854775808 ≤ b ∧ b < 9223372036854775808) : lg_cmp (zL a) (zL b) = zI (if b < a then 1 else if a = b then 0 else -1) := by
  unfold lg_cmp
  by_cases h : b < a
  · rw [if_pos h, if_pos ((zL_lt hb ha).mpr h)]; rfl
  · rw [if_neg h, if_neg (fun q => h ((zL_lt hb ha).mp q))]
    by_cases e : a = b
    · rw [if_pos e, if_pos ((zL_eq ha hb).mpr e)]; rfl
    · rw [if_neg e, if_neg (fun q => e ((zL_eq ha hb).mp q))]; rfl
/-- functions on places -/
def up (G : Int → Int) (i v : Int) : Int → Int := fun k => if k = i then v else G k
theorem up_s (G : Int → Int) (i v : Int) : up G i v i = v := if_pos rfl
theorem up_n {G : Int → Int} {i v k : Int} (h : k ≠ i) : up G i v k = G k := if_neg h
theorem up_e {G : Int → Int} {i v k : Int} (h : k = i) : up G i v k = v := if_pos h
theorem up_self (G : Int → Int) (i : Int) : up G i (G i) = G := by
  funext k
  unfold up
  split
  · rename_i h; rw [h]
  · rfl
theorem updL_up (G : Int → Int) (b i v : Int) (h : 0 ≤ i) : vp_updL (fun k : Nat => zL (G (b + k))) i.toNat (zL v) = fun k : Nat => zL (up G (b + i) v (b + k)) := by
  funext k
  unfold vp_updL
  by_cases e : k = i.toNat
  · rw [if_pos e, up_e (by omega)]
  · rw [if_neg e, up_n (by omega)]
theorem updI_up (G : Int → Int) (b i v : Int) (h : 0 ≤ i) : upd (fun k : Nat => zI (G (b + k))) i.toNat (zI v) = fun k : Nat => zI (up G (b + i) v (b + k)) := by
  funext k
  unfold upd
  by_cases e : k = i.toNat
  · rw [if_pos e, up_e (by omega)]
  · rw [if_neg e, up_n (by omega)]
/-! contracts -/
/-- the classes of the arrays: ints, longs, booleans, chars, Meters, Loads, Houses -/
abbrev xT (cs : Nat → ClassId) : List (ClassId × FieldType) := [(cs 0, .int), (cs 1, .int), (cs 2, .boolean), (cs 3, .char), (cs 4, .object RX4), (cs 5, .object RX3), (cs 6, .object RX2)]
/-- the two links of House to private methods of EnergyDiscs (a nest's words stand in no list of a method) -/
def kN (U : State) : Prop := va_Nw (.methodLinkNest RX2 101 yX6_minutesToSwitch RX6) U ∧ va_Nw (.methodLinkNest RX2 116 yX6_isNight RX6) U
def kK (D : va_G) (cs : Nat → ClassId) (U : State) : Prop := va_K D vwCl (xT cs) U ∧ kN U
theorem kK.warm {D : va_G} {cs : Nat → ClassId} {s U : State} (hW : s.WarmedH U.vm) (h : kK D cs s) : kK D cs U := ⟨va_K.moved hW.alike h.1, va_Nw.warmM hW h.2.1, va_Nw.warmM hW h.2.2⟩
def kW (D : va_G) (cs : Nat → ClassId) (P : Heap → Prop) : State → Prop := fun U => kK D cs U ∧ P U.heap
/-- ends: nothing changed; only cells of a kind changed -/
def kS (v : Option Value) : Array Value → State → Outcome → State → Prop := fun _ st o t => o = .returned v ∧ t.heap = st.heap
def kQ (v : Option Value) (B : Heap → Prop) (A : Nat → Prop) : Array Value → State → Outcome → State → Prop := fun _ st o t => o = .returned v ∧ B t.heap ∧ va_F A st t
abbrev kR (D : va_G) (cs : Nat → ClassId) (l : Launch) (y : MethodName) (ws : List Cond) (rm : Room) (as : List Value) (P : Heap → Prop) (v : Option Value) : Prop := Met l y ws rm (va_Pc as (kW D cs P)) (kS v) 0 0 (fun _ => False)
abbrev kM (D : va_G) (cs : Nat → ClassId) (l : Launch) (y : MethodName) (ws : List Cond) (rm : Room) (as : List Value) (P : Heap → Prop) (v : Option Value) (B : Heap → Prop) (A : Nat → Prop) : Prop := Met l y ws rm (va_Pc as (kW D cs P)) (kQ v B A) 0 0 A
theorem kW_blind {D : va_G} {cs : Nat → ClassId} {P : Heap → Prop} {as : List Value} : FrameBlind (va_Pc as (kW D cs P)) := by
  intro a U g mk h
  obtain ⟨h1, h2, h3⟩ := h
  exact ⟨h1, ⟨va_K.moved (u := U) (U := U.calling g mk a) (Vm.Alike.refl U.vm) h2.1, va_Nw.same rfl rfl h2.2.1, va_Nw.same rfl rfl h2.2.2⟩, h3⟩
abbrev kF (A : Nat → Prop) (H H1 : Heap) : Prop := H.size ≤ H1.size ∧ ∀ q : Nat, q < H.size → ¬ A q → H1[q]? = H[q]?
theorem va_at1 {D : va_G} {b : Nat} {e : va_E} {H : Heap} (h : va_at D vwCl (b, e) H) : va_P D vwCl [(b, e)] H := by
  intro k q hk
  match k, hk with
  | 0, hk => cases hk; exact h
  | k + 1, hk => simp at hk
theorem va_at_lt {D : va_G} {b : Nat} {e : va_E} {H : Heap} (h : va_at D vwCl (b, e) H) : b < H.size := va_at.lt h
theorem va_at_F {D : va_G} {A : Nat → Prop} {b : Nat} {e : va_E} {H H1 : Heap} (h : va_at D vwCl (b, e) H) (hF : kF A H H1) (hA : ¬ A b) : va_at D vwCl (b, e) H1 := va_at.kept h (hF.2 b (va_at.lt h) hA)
section XB
variable {p : Program} {l : Launch} {e : Env} {R : Room} {s : State} {m : MethodId} {args : Array Value} {below : List Frame} {meth : Method} {c : Code} {H : Heap} {locs : List Loc} {cells slots : Nat} {Q : State → Prop} {cc : ByteArray} {pc : Nat} {ls : Array Slot} {rest : List Value} {D : va_G} {cs : Nat → ClassId}
theorem x_iconst (hx : p.tables.exec = Jvm.exec) (hb : c.code = cc) {n : Int} (d : decode cc pc = .ok (.iconst n, 1)) (k : W p l e R s m args below meth c H locs cells slots Q (F0 m (pc + 1) ls (.int (zI n) :: rest))) : W p l e R s m args below meth c H locs cells slots Q (F0 m pc ls rest) := lv_iconst hx hb d rfl k
theorem x_bipush (hx : p.tables.exec = Jvm.exec) (hb : c.code = cc) {n : Int} (d : decode cc pc = .ok (.bipush n, 2)) (h : (Int8.ofInt n).toInt32 = zI n) (k : W p l e R s m args below meth c H locs cells slots Q (F0 m (pc + 2) ls (.int (zI n) :: rest))) : W p l e R s m args below meth c H locs cells slots Q (F0 m pc ls rest) := lv_bipush hx hb d h k
theorem x_sipush (hx : p.tables.exec = Jvm.exec) (hb : c.code = cc) {n : Int} (d : decode cc pc = .ok (.sipush n, 3)) (h : (Int16.ofInt n).toInt32 = zI n) (k : W p l e R s m args below meth c H locs cells slots Q (F0 m (pc + 3) ls (.int (zI n) :: rest))) : W p l e R s m args below meth c H locs cells slots Q (F0 m pc ls rest) := lv_sipush hx hb d h k
theorem x_lconst (hx : p.tables.exec = Jvm.exec) (hb : c.code = cc) {n : Fin 2} {v : Int} (d : decode cc pc = .ok (.lconst n, 1)) (h : Int64.ofNat (n : Nat) = zL v) (k : W p l e R s m args below meth c H locs cells slots Q (F0 m (pc + 1) ls (.long (zL v) :: rest))) : W p l e R s m args below meth c H locs cells slots Q (F0 m pc ls rest) := lv_lconst hx hb d h k
theorem x_ldc (hx : p.tables.exec = Jvm.exec) (hb : c.code = cc) {own : String} {index : Nat} {v : Int} (hown : s.vm.findClass own = some m.cls) (hconst : (Jvm.Cond.constant own index (zI v)).before args s = true) (d : decode cc pc = .ok (.ldc index, 2)) (k : W p l e R s m args below meth c H locs cells slots Q (F0 m (pc + 2) ls (.int (zI v) :: rest))) : W p l e R s m args below meth c H locs cells slots Q (F0 m pc ls rest) := lv_ldc hx hb hown hconst d k
theorem x_ldc2 (hx : p.tables.exec = Jvm.exec) (hb : c.code = cc) {own : String} {index : Nat} {v : Int} (hown : s.vm.findClass own = some m.cls) (hconst : (Jvm.Cond.constantLong own index (zL v)).before args s = true) (d : decode cc pc = .ok (.ldc2_w index, 3)) (k : W p l e R s m args below meth c H locs cells slots Q (F0 m (pc + 3) ls (.long (zL v) :: rest))) : W p l e R s m args below meth c H locs cells slots Q (F0 m pc ls rest) := lv_ldc2 hx hb hown hconst d k
theorem x_iadd (hx : p.tables.exec = Jvm.exec) (hb : c.code = cc) {a b : Int} (d : decode cc pc = .ok (.iadd, 1)) (k : W p l e R s m args below meth c H locs cells slots Q (F0 m (pc + 1) ls (.int (zI (a + b)) :: rest))) : W p l e R s m args below meth c H locs cells slots Q (F0 m pc ls (.int (zI b) :: .int (zI a) :: rest)) := lv_iadd hx hb d (by rw [zI_add]; exact k)
theorem x_isub (hx : p.tables.exec = Jvm.exec) (hb : c.code = cc) {a b : Int} (d : decode cc pc = .ok (.isub, 1)) (k : W p l e R s m args below meth c H locs cells slots Q (F0 m (pc + 1) ls (.int (zI (a - b)) :: rest))) : W p l e R s m args below meth c H locs cells slots Q (F0 m pc ls (.int (zI b) :: .int (zI a) :: rest)) := lv_isub hx hb d (by rw [zI_sub]; exact k)
theorem x_imul (hx : p.tables.exec = Jvm.exec) (hb : c.code = cc) {a b : Int} (d : decode cc pc = .ok (.imul, 1)) (k : W p l e R s m args below meth c H locs cells slots Q (F0 m (pc + 1) ls (.int (zI (a * b)) :: rest))) : W p l e R s m args below meth c H locs cells slots Q (F0 m pc ls (.int (zI b) :: .int (zI a) :: rest)) := lv_imul hx hb d (by rw [zI_mul]; exact k)
theorem x_ladd (hx : p.tables.exec = Jvm.exec) (hb : c.code = cc) {a b : Int} (d : decode cc pc = .ok (.ladd, 1)) (k : W p l e R s m args below meth c H locs cells slots Q (F0 m (pc + 1) ls (.long (zL (a + b)) :: rest))) : W p l e R s m args below meth c H locs cells slots Q (F0 m pc ls (.long (zL b) :: .long (zL a) :: rest)) := lv_ladd hx hb d (by rw [zL_add]; exact k)
theorem x_lsub (hx : p.tables.exec = Jvm.exec) (hb : c.code = cc) {a b : Int} (d : decode cc pc = .ok (.lsub, 1)) (k : W p l e R s m args below meth c H locs cells slots Q (F0 m (pc + 1) ls (.long (zL (a - b)) :: rest))) : W p l e R s m args below meth c H locs cells slots Q (F0 m pc ls (.long (zL b) :: .long (zL a) :: rest)) := lv_lsub hx hb d (by rw [zL_sub]; exact k)
theorem x_lmul (hx : p.tables.exec = Jvm.exec) (hb : c.code = cc) {a b : Int} (d : decode cc pc = .ok (.lmul, 1)) (k : W p l e R s m args below meth c H locs cells slots Q (F0 m (pc + 1) ls (.long (zL (a * b)) :: rest))) : W p l e R s m args below meth c H locs cells slots Q (F0 m pc ls (.long (zL b) :: .long (zL a) :: rest)) := lv_lmul hx hb d (by rw [zL_mul]; exact k)
theorem x_idiv (hx : p.tables.exec = Jvm.exec) (hb : c.code = cc) {a b : Int} (ha : 0 ≤ a ∧ a < 2147483648) (hb0 : 0 < b ∧ b < 2147483648) (d : decode cc pc = .ok (.idiv, 1)) (k : W p l e R s m args below meth c H locs cells slots Q (F0 m (pc + 1) ls (.int (zI (a / b)) :: rest))) : W p l e R s m args below meth c H locs cells slots Q (F0 m pc ls (.int (zI b) :: .int (zI a) :: rest)) := lv_idiv hx hb d (zI_ne0 hb0) (by rw [zI_div ha hb0]; exact k)
theorem x_irem (hx : p.tables.exec = Jvm.exec) (hb : c.code = cc) {a b : Int} (ha : 0 ≤ a ∧ a < 2147483648) (hb0 : 0 < b ∧ b < 2147483648) (d : decode cc pc = .ok (.irem, 1)) (k : W p l e R s m args below meth c H locs cells slots Q (F0 m (pc + 1) ls (.int (zI (a % b)) :: rest))) : W p l e R s m args below meth c H locs cells slots Q (F0 m pc ls (.int (zI b) :: .int (zI a) :: rest)) := lv_irem hx hb d (zI_ne0 hb0) (by rw [zI_rem ha hb0]; exact k)
theorem x_ldiv (hx : p.tables.exec = Jvm.exec) (hb : c.code = cc) {a b : Int} (ha : 0 ≤ a ∧ a < 9223372036854775808) (hb0 : 0 < b ∧ b < 9223372036854775808) (d : decode cc pc = .ok (.ldiv, 1)) (k : W p l e R s m args below meth c H locs cells slots Q (F0 m (pc + 1) ls (.long (zL (a / b)) :: rest))) : W p l e R s m args below meth c H locs cells slots Q (F0 m pc ls (.long (zL b) :: .long (zL a) :: rest)) := lv_ldiv hx hb d (zL_ne0 hb0) (by rw [zL_div ha hb0]; exact k)
theorem x_lrem (hx : p.tables.exec = Jvm.exec) (hb : c.code = cc) {a b : Int} (ha : 0 ≤ a ∧ a < 9223372036854775808) (hb0 : 0 < b ∧ b < 9223372036854775808) (d : decode cc pc = .ok (.lrem, 1)) (k : W p l e R s m args below meth c H locs cells slots Q (F0 m (pc + 1) ls (.long (zL (a % b)) :: rest))) : W p l e R s m args below meth c H locs cells slots Q (F0 m pc ls (.long (zL b) :: .long (zL a) :: rest)) := lv_lrem hx hb d (zL_ne0 hb0) (by rw [zL_rem ha hb0]; exact k)
theorem x_i2l (hx : p.tables.exec = Jvm.exec) (hb : c.code = cc) {a : Int} (ha : -2147483648 ≤ a ∧ a < 2147483648) (d : decode cc pc = .ok (.i2l, 1)) (k : W p l e R s m args below meth c H locs cells slots Q (F0 m (pc + 1) ls (.long (zL a) :: rest))) : W p l e R s m args below meth c H locs cells slots Q (F0 m pc ls (.int (zI a) :: rest)) := lv_i2l hx hb d (zI_l ha) k
theorem x_l2i (hx : p.tables.exec = Jvm.exec) (hb : c.code = cc) {a : Int} (d : decode cc pc = .ok (.l2i, 1)) (k : W p l e R s m args below meth c H locs cells slots Q (F0 m (pc + 1) ls (.int (zI a) :: rest))) : W p l e R s m args below meth c H locs cells slots Q (F0 m pc ls (.long (zL a) :: rest)) := lv_l2i hx hb d (zL_i a) k
theorem x_iinc (hx : p.tables.exec = Jvm.exec) (hb : c.code = cc) {i nL k : Nat} {n x : Int} {lv lv' : List (Nat × Value)} (d : decode cc pc = .ok (.iinc i n, 3)) (h : lv_has ls nL lv) (hk : lv[k]? = some (i, .int (zI x))) (hn : i < nL) (hl : (i, Value.int (zI (x + n))) :: lv.filter (fun q => !(q.1 == i) && !(q.1 + 1 == i && q.2.category == 2)) = lv') (kk : ∀ ls' : Array Slot, lv_has ls' nL lv' → W p l e R s m args below meth c H locs cells slots Q (F0 m (pc + 3) ls' rest)) : W p l e R s m args below meth c H locs cells slots Q (F0 m pc ls rest) := lv_iinc hx hb d h hk (zI_add x n) hn hl kk
theorem x_icmp_eq (hx : p.tables.exec = Jvm.exec) (hb : c.code = cc) {a b : Int} {off : Int} {tgt : Nat} (d : decode cc pc = .ok (.if_icmp .eq off, 3)) (ht : (pc : Int) + off = (tgt : Int)) (ha : -2147483648 ≤ a ∧ a < 2147483648) (hb0 : -2147483648 ≤ b ∧ b < 2147483648) (kt : a = b → W p l e R s m args below meth c H locs cells slots Q (F0 m tgt ls rest)) (kf : ¬ (a = b) → W p l e R s m args below meth c H locs cells slots Q (F0 m (pc + 3) ls rest)) : W p l e R s m args below meth c H locs cells slots Q (F0 m pc ls (.int (zI b) :: .int (zI a) :: rest)) := lv_icmp_eq hx hb d ht (fun q => kt (by first | exact (zI_eq ha hb0).mp q | exact fun w => q ((zI_eq ha hb0).mpr w) | (have := Int32.not_lt.mp q; exact (zI_eq ha hb0).mp this))) (fun q => kf (by first | exact (zI_eq ha hb0).mp q | exact fun w => q ((zI_eq ha hb0).mpr w) | exact (zI_eq ha hb0).mp (Classical.not_not.mp q)))
theorem x_if_eq (hx : p.tables.exec = Jvm.exec) (hb : c.code = cc) {a : Int} {off : Int} {tgt : Nat} (d : decode cc pc = .ok (.ifCond .eq off, 3)) (ht : (pc : Int) + off = (tgt : Int)) (ha : -2147483648 ≤ a ∧ a < 2147483648) (kt : a = 0 → W p l e R s m args below meth c H locs cells slots Q (F0 m tgt ls rest)) (kf : ¬ (a = 0) → W p l e R s m args below meth c H locs cells slots Q (F0 m (pc + 3) ls rest)) : W p l e R s m args below meth c H locs cells slots Q (F0 m pc ls (.int (zI a) :: rest)) := lv_if_eq hx hb d ht (fun q => kt (by first | exact (zI_eq ha (⟨by decide, by decide⟩ : -2147483648 ≤ (0 : Int) ∧ (0 : Int) < 2147483648)).mp q | exact fun w => q ((zI_eq ha (⟨by decide, by decide⟩ : -2147483648 ≤ (0 : Int) ∧ (0 : Int) < 2147483648)).mpr w))) (fun q => kf (by first | exact (zI_eq ha (⟨by decide, by decide⟩ : -2147483648 ≤ (0 : Int) ∧ (0 : Int) < 2147483648)).mp q | exact fun w => q ((zI_eq ha (⟨by decide, by decide⟩ : -2147483648 ≤ (0 : Int) ∧ (0 : Int) < 2147483648)).mpr w) | exact (zI_eq ha (⟨by decide, by decide⟩ : -2147483648 ≤ (0 : Int) ∧ (0 : Int) < 2147483648)).mp (Classical.not_not.mp q)))
theorem x_lcmp_eq (hx : p.tables.exec = Jvm.exec) (hb : c.code = cc) {a b : Int} {off : Int} {tgt : Nat} (d1 : decode cc pc = .ok (.lcmp, 1)) (d : decode cc (pc + 1) = .ok (.ifCond .eq off, 3)) (ht : (pc : Int) + 1 + off = (tgt : Int)) (ha : -9223372036854775808 ≤ a ∧ a < 9223372036854775808) (hb0 : -9223372036854775808 ≤ b ∧ b < 9223372036854775808) (kt : a = b → W p l e R s m args below meth c H locs cells slots Q (F0 m tgt ls rest)) (kf : ¬ (a = b) → W p l e R s m args below meth c H locs cells slots Q (F0 m (pc + 4) ls rest)) : W p l e R s m args below meth c H locs cells slots Q (F0 m pc ls (.long (zL b) :: .long (zL a) :: rest)) := by
  refine W.lcmp hx hb d1 ?_
  rw [zcmp ha hb0]
  refine x_if_eq hx hb d (by omega) (by split <;> (try split) <;> omega) (fun q => kt ?_) (fun q => kf ?_)
  · split at q <;> (try split at q) <;> omega
  · split at q <;> (try split at q) <;> omega
theorem x_icmp_ne (hx : p.tables.exec = Jvm.exec) (hb : c.code = cc) {a b : Int} {off : Int} {tgt : Nat} (d : decode cc pc = .ok (.if_icmp .ne off, 3)) (ht : (pc : Int) + off = (tgt : Int)) (ha : -2147483648 ≤ a ∧ a < 2147483648) (hb0 : -2147483648 ≤ b ∧ b < 2147483648) (kt : ¬ (a = b) → W p l e R s m args below meth c H locs cells slots Q (F0 m tgt ls rest)) (kf : a = b → W p l e R s m args below meth c H locs cells slots Q (F0 m (pc + 3) ls rest)) : W p l e R s m args below meth c H locs cells slots Q (F0 m pc ls (.int (zI b) :: .int (zI a) :: rest)) := lv_icmp_ne hx hb d ht (fun q => kt (by first | exact (zI_eq ha hb0).mp q | exact fun w => q ((zI_eq ha hb0).mpr w) | (have := Int32.not_lt.mp q; exact (zI_eq ha hb0).mp this))) (fun q => kf (by first | exact (zI_eq ha hb0).mp q | exact fun w => q ((zI_eq ha hb0).mpr w) | exact (zI_eq ha hb0).mp (Classical.not_not.mp q)))
theorem x_if_ne (hx : p.tables.exec = Jvm.exec) (hb : c.code = cc) {a : Int} {off : Int} {tgt : Nat} (d : decode cc pc = .ok (.ifCond .ne off, 3)) (ht : (pc : Int) + off = (tgt : Int)) (ha : -2147483648 ≤ a ∧ a < 2147483648) (kt : ¬ (a = 0) → W p l e R s m args below meth c H locs cells slots Q (F0 m tgt ls rest)) (kf : a = 0 → W p l e R s m args below meth c H locs cells slots Q (F0 m (pc + 3) ls rest)) : W p l e R s m args below meth c H locs cells slots Q (F0 m pc ls (.int (zI a) :: rest)) := lv_if_ne hx hb d ht (fun q => kt (by first | exact (zI_eq ha (⟨by decide, by decide⟩ : -2147483648 ≤ (0 : Int) ∧ (0 : Int) < 2147483648)).mp q | exact fun w => q ((zI_eq ha (⟨by decide, by decide⟩ : -2147483648 ≤ (0 : Int) ∧ (0 : Int) < 2147483648)).mpr w))) (fun q => kf (by first | exact (zI_eq ha (⟨by decide, by decide⟩ : -2147483648 ≤ (0 : Int) ∧ (0 : Int) < 2147483648)).mp q | exact fun w => q ((zI_eq ha (⟨by decide, by decide⟩ : -2147483648 ≤ (0 : Int) ∧ (0 : Int) < 2147483648)).mpr w) | exact (zI_eq ha (⟨by decide, by decide⟩ : -2147483648 ≤ (0 : Int) ∧ (0 : Int) < 2147483648)).mp (Classical.not_not.mp q)))
theorem x_lcmp_ne (hx : p.tables.exec = Jvm.exec) (hb : c.code = cc) {a b : Int} {off : Int} {tgt : Nat} (d1 : decode cc pc = .ok (.lcmp, 1)) (d : decode cc (pc + 1) = .ok (.ifCond .ne off, 3)) (ht : (pc : Int) + 1 + off = (tgt : Int)) (ha : -9223372036854775808 ≤ a ∧ a < 9223372036854775808) (hb0 : -9223372036854775808 ≤ b ∧ b < 9223372036854775808) (kt : ¬ (a = b) → W p l e R s m args below meth c H locs cells slots Q (F0 m tgt ls rest)) (kf : a = b → W p l e R s m args below meth c H locs cells slots Q (F0 m (pc + 4) ls rest)) : W p l e R s m args below meth c H locs cells slots Q (F0 m pc ls (.long (zL b) :: .long (zL a) :: rest)) := by
  refine W.lcmp hx hb d1 ?_
  rw [zcmp ha hb0]
  refine x_if_ne hx hb d (by omega) (by split <;> (try split) <;> omega) (fun q => kt ?_) (fun q => kf ?_)
  · split at q <;> (try split at q) <;> omega
  · split at q <;> (try split at q) <;> omega
theorem x_icmp_lt (hx : p.tables.exec = Jvm.exec) (hb : c.code = cc) {a b : Int} {off : Int} {tgt : Nat} (d : decode cc pc = .ok (.if_icmp .lt off, 3)) (ht : (pc : Int) + off = (tgt : Int)) (ha : -2147483648 ≤ a ∧ a < 2147483648) (hb0 : -2147483648 ≤ b ∧ b < 2147483648) (kt : a < b → W p l e R s m args below meth c H locs cells slots Q (F0 m tgt ls rest)) (kf : ¬ (a < b) → W p l e R s m args below meth c H locs cells slots Q (F0 m (pc + 3) ls rest)) : W p l e R s m args below meth c H locs cells slots Q (F0 m pc ls (.int (zI b) :: .int (zI a) :: rest)) := lv_icmp_lt hx hb d ht (fun q => kt (by first | exact (zI_lt ha hb0).mp q | exact fun w => q ((zI_lt ha hb0).mpr w) | (have := Int32.not_lt.mp q; exact (zI_lt ha hb0).mp this))) (fun q => kf (by first | exact (zI_lt ha hb0).mp q | exact fun w => q ((zI_lt ha hb0).mpr w) | exact (zI_lt ha hb0).mp (Classical.not_not.mp q)))
theorem x_if_lt (hx : p.tables.exec = Jvm.exec) (hb : c.code = cc) {a : Int} {off : Int} {tgt : Nat} (d : decode cc pc = .ok (.ifCond .lt off, 3)) (ht : (pc : Int) + off = (tgt : Int)) (ha : -2147483648 ≤ a ∧ a < 2147483648) (kt : a < 0 → W p l e R s m args below meth c H locs cells slots Q (F0 m tgt ls rest)) (kf : ¬ (a < 0) → W p l e R s m args below meth c H locs cells slots Q (F0 m (pc + 3) ls rest)) : W p l e R s m args below meth c H locs cells slots Q (F0 m pc ls (.int (zI a) :: rest)) := lv_if_lt hx hb d ht (fun q => kt (by first | exact (zI_lt ha (⟨by decide, by decide⟩ : -2147483648 ≤ (0 : Int) ∧ (0 : Int) < 2147483648)).mp q | exact fun w => q ((zI_lt ha (⟨by decide, by decide⟩ : -2147483648 ≤ (0 : Int) ∧ (0 : Int) < 2147483648)).mpr w))) (fun q => kf (by first | exact (zI_lt ha (⟨by decide, by decide⟩ : -2147483648 ≤ (0 : Int) ∧ (0 : Int) < 2147483648)).mp q | exact fun w => q ((zI_lt ha (⟨by decide, by decide⟩ : -2147483648 ≤ (0 : Int) ∧ (0 : Int) < 2147483648)).mpr w) | exact (zI_lt ha (⟨by decide, by decide⟩ : -2147483648 ≤ (0 : Int) ∧ (0 : Int) < 2147483648)).mp (Classical.not_not.mp q)))
theorem x_lcmp_lt (hx : p.tables.exec = Jvm.exec) (hb : c.code = cc) {a b : Int} {off : Int} {tgt : Nat} (d1 : decode cc pc = .ok (.lcmp, 1)) (d : decode cc (pc + 1) = .ok (.ifCond .lt off, 3)) (ht : (pc : Int) + 1 + off = (tgt : Int)) (ha : -9223372036854775808 ≤ a ∧ a < 9223372036854775808) (hb0 : -9223372036854775808 ≤ b ∧ b < 9223372036854775808) (kt : a < b → W p l e R s m args below meth c H locs cells slots Q (F0 m tgt ls rest)) (kf : ¬ (a < b) → W p l e R s m args below meth c H locs cells slots Q (F0 m (pc + 4) ls rest)) : W p l e R s m args below meth c H locs cells slots Q (F0 m pc ls (.long (zL b) :: .long (zL a) :: rest)) := by
  refine W.lcmp hx hb d1 ?_
  rw [zcmp ha hb0]
  refine x_if_lt hx hb d (by omega) (by split <;> (try split) <;> omega) (fun q => kt ?_) (fun q => kf ?_)
  · split at q <;> (try split at q) <;> omega
  · split at q <;> (try split at q) <;> omega
theorem x_icmp_ge (hx : p.tables.exec = Jvm.exec) (hb : c.code = cc) {a b : Int} {off : Int} {tgt : Nat} (d : decode cc pc = .ok (.if_icmp .ge off, 3)) (ht : (pc : Int) + off = (tgt : Int)) (ha : -2147483648 ≤ a ∧ a < 2147483648) (hb0 : -2147483648 ≤ b ∧ b < 2147483648) (kt : b ≤ a → W p l e R s m args below meth c H locs cells slots Q (F0 m tgt ls rest)) (kf : ¬ (b ≤ a) → W p l e R s m args below meth c H locs cells slots Q (F0 m (pc + 3) ls rest)) : W p l e R s m args below meth c H locs cells slots Q (F0 m pc ls (.int (zI b) :: .int (zI a) :: rest)) := lv_icmp_ge hx hb d ht (fun q => kt (by first | exact (zI_le hb0 ha).mp q | exact fun w => q ((zI_le hb0 ha).mpr w) | (have := Int32.not_lt.mp q; exact (zI_le hb0 ha).mp this))) (fun q => kf (by first | exact (zI_le hb0 ha).mp q | exact fun w => q ((zI_le hb0 ha).mpr w) | exact (zI_le hb0 ha).mp (Classical.not_not.mp q)))
theorem x_if_ge (hx : p.tables.exec = Jvm.exec) (hb : c.code = cc) {a : Int} {off : Int} {tgt : Nat} (d : decode cc pc = .ok (.ifCond .ge off, 3)) (ht : (pc : Int) + off = (tgt : Int)) (ha : -2147483648 ≤ a ∧ a < 2147483648) (kt : 0 ≤ a → W p l e R s m args below meth c H locs cells slots Q (F0 m tgt ls rest)) (kf : ¬ (0 ≤ a) → W p l e R s m args below meth c H locs cells slots Q (F0 m (pc + 3) ls rest)) : W p l e R s m args below meth c H locs cells slots Q (F0 m pc ls (.int (zI a) :: rest)) := lv_if_ge hx hb d ht (fun q => kt (by first | exact (zI_le (⟨by decide, by decide⟩ : -2147483648 ≤ (0 : Int) ∧ (0 : Int) < 2147483648) ha).mp q | exact fun w => q ((zI_le (⟨by decide, by decide⟩ : -2147483648 ≤ (0 : Int) ∧ (0 : Int) < 2147483648) ha).mpr w))) (fun q => kf (by first | exact (zI_le (⟨by decide, by decide⟩ : -2147483648 ≤ (0 : Int) ∧ (0 : Int) < 2147483648) ha).mp q | exact fun w => q ((zI_le (⟨by decide, by decide⟩ : -2147483648 ≤ (0 : Int) ∧ (0 : Int) < 2147483648) ha).mpr w) | exact (zI_le (⟨by decide, by decide⟩ : -2147483648 ≤ (0 : Int) ∧ (0 : Int) < 2147483648) ha).mp (Classical.not_not.mp q)))
theorem x_lcmp_ge (hx : p.tables.exec = Jvm.exec) (hb : c.code = cc) {a b : Int} {off : Int} {tgt : Nat} (d1 : decode cc pc = .ok (.lcmp, 1)) (d : decode cc (pc + 1) = .ok (.ifCond .ge off, 3)) (ht : (pc : Int) + 1 + off = (tgt : Int)) (ha : -9223372036854775808 ≤ a ∧ a < 9223372036854775808) (hb0 : -9223372036854775808 ≤ b ∧ b < 9223372036854775808) (kt : b ≤ a → W p l e R s m args below meth c H locs cells slots Q (F0 m tgt ls rest)) (kf : ¬ (b ≤ a) → W p l e R s m args below meth c H locs cells slots Q (F0 m (pc + 4) ls rest)) : W p l e R s m args below meth c H locs cells slots Q (F0 m pc ls (.long (zL b) :: .long (zL a) :: rest)) := by
  refine W.lcmp hx hb d1 ?_
  rw [zcmp ha hb0]
  refine x_if_ge hx hb d (by omega) (by split <;> (try split) <;> omega) (fun q => kt ?_) (fun q => kf ?_)
  · split at q <;> (try split at q) <;> omega
  · split at q <;> (try split at q) <;> omega
theorem x_icmp_gt (hx : p.tables.exec = Jvm.exec) (hb : c.code = cc) {a b : Int} {off : Int} {tgt : Nat} (d : decode cc pc = .ok (.if_icmp .gt off, 3)) (ht : (pc : Int) + off = (tgt : Int)) (ha : -2147483648 ≤ a ∧ a < 2147483648) (hb0 : -2147483648 ≤ b ∧ b < 2147483648) (kt : b < a → W p l e R s m args below meth c H locs cells slots Q (F0 m tgt ls rest)) (kf : ¬ (b < a) → W p l e R s m args below meth c H locs cells slots Q (F0 m (pc + 3) ls rest)) : W p l e R s m args below meth c H locs cells slots Q (F0 m pc ls (.int (zI b) :: .int (zI a) :: rest)) := lv_icmp_gt hx hb d ht (fun q => kt (by first | exact (zI_lt hb0 ha).mp q | exact fun w => q ((zI_lt hb0 ha).mpr w) | (have := Int32.not_lt.mp q; exact (zI_lt hb0 ha).mp this))) (fun q => kf (by first | exact (zI_lt hb0 ha).mp q | exact fun w => q ((zI_lt hb0 ha).mpr w) | exact (zI_lt hb0 ha).mp (Classical.not_not.mp q)))
theorem x_if_gt (hx : p.tables.exec = Jvm.exec) (hb : c.code = cc) {a : Int} {off : Int} {tgt : Nat} (d : decode cc pc = .ok (.ifCond .gt off, 3)) (ht : (pc : Int) + off = (tgt : Int)) (ha : -2147483648 ≤ a ∧ a < 2147483648) (kt : 0 < a → W p l e R s m args below meth c H locs cells slots Q (F0 m tgt ls rest)) (kf : ¬ (0 < a) → W p l e R s m args below meth c H locs cells slots Q (F0 m (pc + 3) ls rest)) : W p l e R s m args below meth c H locs cells slots Q (F0 m pc ls (.int (zI a) :: rest)) := lv_if_gt hx hb d ht (fun q => kt (by first | exact (zI_lt (⟨by decide, by decide⟩ : -2147483648 ≤ (0 : Int) ∧ (0 : Int) < 2147483648) ha).mp q | exact fun w => q ((zI_lt (⟨by decide, by decide⟩ : -2147483648 ≤ (0 : Int) ∧ (0 : Int) < 2147483648) ha).mpr w))) (fun q => kf (by first | exact (zI_lt (⟨by decide, by decide⟩ : -2147483648 ≤ (0 : Int) ∧ (0 : Int) < 2147483648) ha).mp q | exact fun w => q ((zI_lt (⟨by decide, by decide⟩ : -2147483648 ≤ (0 : Int) ∧ (0 : Int) < 2147483648) ha).mpr w) | exact (zI_lt (⟨by decide, by decide⟩ : -2147483648 ≤ (0 : Int) ∧ (0 : Int) < 2147483648) ha).mp (Classical.not_not.mp q)))
theorem x_lcmp_gt (hx : p.tables.exec = Jvm.exec) (hb : c.code = cc) {a b : Int} {off : Int} {tgt : Nat} (d1 : decode cc pc = .ok (.lcmp, 1)) (d : decode cc (pc + 1) = .ok (.ifCond .gt off, 3)) (ht : (pc : Int) + 1 + off = (tgt : Int)) (ha : -9223372036854775808 ≤ a ∧ a < 9223372036854775808) (hb0 : -9223372036854775808 ≤ b ∧ b < 9223372036854775808) (kt : b < a → W p l e R s m args below meth c H locs cells slots Q (F0 m tgt ls rest)) (kf : ¬ (b < a) → W p l e R s m args below meth c H locs cells slots Q (F0 m (pc + 4) ls rest)) : W p l e R s m args below meth c H locs cells slots Q (F0 m pc ls (.long (zL b) :: .long (zL a) :: rest)) := by
  refine W.lcmp hx hb d1 ?_
  rw [zcmp ha hb0]
  refine x_if_gt hx hb d (by omega) (by split <;> (try split) <;> omega) (fun q => kt ?_) (fun q => kf ?_)
  · split at q <;> (try split at q) <;> omega
  · split at q <;> (try split at q) <;> omega
theorem x_icmp_le (hx : p.tables.exec = Jvm.exec) (hb : c.code = cc) {a b : Int} {off : Int} {tgt : Nat} (d : decode cc pc = .ok (.if_icmp .le off, 3)) (ht : (pc : Int) + off = (tgt : Int)) (ha : -2147483648 ≤ a ∧ a < 2147483648) (hb0 : -2147483648 ≤ b ∧ b < 2147483648) (kt : a ≤ b → W p l e R s m args below meth c H locs cells slots Q (F0 m tgt ls rest)) (kf : ¬ (a ≤ b) → W p l e R s m args below meth c H locs cells slots Q (F0 m (pc + 3) ls rest)) : W p l e R s m args below meth c H locs cells slots Q (F0 m pc ls (.int (zI b) :: .int (zI a) :: rest)) := lv_icmp_le hx hb d ht (fun q => kt (by first | exact (zI_le ha hb0).mp q | exact fun w => q ((zI_le ha hb0).mpr w) | (have := Int32.not_lt.mp q; exact (zI_le ha hb0).mp this))) (fun q => kf (by first | exact (zI_le ha hb0).mp q | exact fun w => q ((zI_le ha hb0).mpr w) | exact (zI_le ha hb0).mp (Classical.not_not.mp q)))
theorem x_if_le (hx : p.tables.exec = Jvm.exec) (hb : c.code = cc) {a : Int} {off : Int} {tgt : Nat} (d : decode cc pc = .ok (.ifCond .le off, 3)) (ht : (pc : Int) + off = (tgt : Int)) (ha : -2147483648 ≤ a ∧ a < 2147483648) (kt : a ≤ 0 → W p l e R s m args below meth c H locs cells slots Q (F0 m tgt ls rest)) (kf : ¬ (a ≤ 0) → W p l e R s m args below meth c H locs cells slots Q (F0 m (pc + 3) ls rest)) : W p l e R s m args below meth c H locs cells slots Q (F0 m pc ls (.int (zI a) :: rest)) := lv_if_le hx hb d ht (fun q => kt (by first | exact (zI_le ha (⟨by decide, by decide⟩ : -2147483648 ≤ (0 : Int) ∧ (0 : Int) < 2147483648)).mp q | exact fun w => q ((zI_le ha (⟨by decide, by decide⟩ : -2147483648 ≤ (0 : Int) ∧ (0 : Int) < 2147483648)).mpr w))) (fun q => kf (by first | exact (zI_le ha (⟨by decide, by decide⟩ : -2147483648 ≤ (0 : Int) ∧ (0 : Int) < 2147483648)).mp q | exact fun w => q ((zI_le ha (⟨by decide, by decide⟩ : -2147483648 ≤ (0 : Int) ∧ (0 : Int) < 2147483648)).mpr w) | exact (zI_le ha (⟨by decide, by decide⟩ : -2147483648 ≤ (0 : Int) ∧ (0 : Int) < 2147483648)).mp (Classical.not_not.mp q)))
theorem x_lcmp_le (hx : p.tables.exec = Jvm.exec) (hb : c.code = cc) {a b : Int} {off : Int} {tgt : Nat} (d1 : decode cc pc = .ok (.lcmp, 1)) (d : decode cc (pc + 1) = .ok (.ifCond .le off, 3)) (ht : (pc : Int) + 1 + off = (tgt : Int)) (ha : -9223372036854775808 ≤ a ∧ a < 9223372036854775808) (hb0 : -9223372036854775808 ≤ b ∧ b < 9223372036854775808) (kt : a ≤ b → W p l e R s m args below meth c H locs cells slots Q (F0 m tgt ls rest)) (kf : ¬ (a ≤ b) → W p l e R s m args below meth c H locs cells slots Q (F0 m (pc + 4) ls rest)) : W p l e R s m args below meth c H locs cells slots Q (F0 m pc ls (.long (zL b) :: .long (zL a) :: rest)) := by
  refine W.lcmp hx hb d1 ?_
  rw [zcmp ha hb0]
  refine x_if_le hx hb d (by omega) (by split <;> (try split) <;> omega) (fun q => kt ?_) (fun q => kf ?_)
  · split at q <;> (try split at q) <;> omega
  · split at q <;> (try split at q) <;> omega
/-! memory, a cell at a time -/
theorem x_get (hx : p.tables.exec = Jvm.exec) (hb : c.code = cc) {own C : String} {T : u_T} {N ci index : Nat} {Ts : List Cond} (hts : ∀ w ∈ Ts, w.before args s = true) (hin : ∀ w ∈ u_ws C T N, w ∈ Ts) (hown : s.vm.findClass own = some m.cls) (hK : kK D cs s) {b : Nat} {fs : List Value} (ho : va_at D vwCl (b, .inr (ci, fs)) H) (hc : vwCl[ci]? = some (C, T, N)) (k : Nat) (hk : k < N) (hlink : (Cond.fieldLink own index (T k).1 (T k).2.1 (T k).2.2.1).before args s = true) {v : Value} (hv : fs[k]? = some v) (d : decode cc pc = .ok (.getfield index, 3)) (kk : W p l e R s m args below meth c H locs cells slots Q (F0 m (pc + 3) ls (v :: rest))) : W p l e R s m args below meth c H locs cells slots Q (F0 m pc ls (.ref b :: rest)) := va_get hx hb hts hin hown hK.1 (va_at1 ho) 0 rfl hc k hk hlink (fun _ h => h) hv d kk
theorem x_put (hx : p.tables.exec = Jvm.exec) (hb : c.code = cc) {own C : String} {T : u_T} {N ci index : Nat} {Ts : List Cond} (hts : ∀ w ∈ Ts, w.before args s = true) (hin : ∀ w ∈ u_ws C T N, w ∈ Ts) (ty0 : Nat → FieldType) (hty : ∀ k, k < N → parseFieldDescriptor (T k).2.2.1 = some (ty0 k)) (hnm : ∀ a, a < N → ∀ b, b < N → a ≠ b → (T a).2.1 ≠ (T b).2.1) (hown : s.vm.findClass own = some m.cls) (hK : kK D cs s) {b : Nat} {fs : List Value} (ho : va_at D vwCl (b, .inr (ci, fs)) H) (hc : vwCl[ci]? = some (C, T, N)) (k : Nat) (hk : k < N) (hlink : (Cond.fieldLink own index (T k).1 (T k).2.1 (T k).2.2.1).before args s = true) (hfin : (T k).2.2.2 = false) {v : Value} (hn : narrow (ty0 k) v = v) (hfit : fits (ty0 k) v = true) (hl : k < fs.length) (d : decode cc pc = .ok (.putfield index, 3))
    (kk : ∀ (H1 : Heap) (j : Nat), va_at D vwCl (b, .inr (ci, fs.set k v)) H1 → H1.size = H.size → (∀ q, q ≠ b → H1[q]? = H[q]?) → W p l e R s m args below meth c H1 (locs ++ [⟨b, j⟩]) cells slots Q (F0 m (pc + 3) ls rest)) : W p l e R s m args below meth c H locs cells slots Q (F0 m pc ls (v :: .ref b :: rest)) := by
  have hap := va_apart (own := own) hts hin ty0 hty hnm hK.1 hc
  obtain ⟨r, h1, cell, q1, q2, q3, q4⟩ := ho
  have hr : r = (C, T, N) := Option.some.inj (h1.symm.trans hc)
  subst hr
  obtain ⟨hS, hfc, kC, hkC, hkind⟩ := hK.1.1 ci _ hc
  obtain ⟨cf, kf, fi, f, hi, hsl⟩ := hS k hk
  have hlay := hts _ (hin _ (u_in_lay hk))
  unfold u_lay at hlay
  rw [if_neg (by rw [hfin]; decide)] at hlay
  have hst := (u_facts hfc hkC (u_lays hts hin hk) hi).1
  have h6 := u_store hfc hkC hkind hlay hi (hty k hk) hn hfit
  refine W.putK hx hb (f := f) ⟨hown, hlink, ⟨_, _, _, hi⟩, hst⟩ (by rw [q2]; exact h6) q1 q3 (by rw [hsl]; exact k2_hasslot (q4 k hk)) rfl rfl d fun H' e1 e2 e3 => ?_
  rw [hsl] at e1 ⊢
  exact kk H' _ ⟨_, hc, t_OB.to (V := updV (vp_V fs) k v) ⟨_, e1, q2, q3, t_set q4 hap hk v⟩ (fun j _ => vp_updV_set hl v j)⟩ e2 e3
theorem x_putF (hx : p.tables.exec = Jvm.exec) (hb : c.code = cc) {own C : String} {T : u_T} {N ci index : Nat} {Ts : List Cond} (hts : ∀ w ∈ Ts, w.before args s = true) (hin : ∀ w ∈ u_ws C T N, w ∈ Ts) (ty0 : Nat → FieldType) (hty : ∀ k, k < N → parseFieldDescriptor (T k).2.2.1 = some (ty0 k)) (hnm : ∀ a, a < N → ∀ b, b < N → a ≠ b → (T a).2.1 ≠ (T b).2.1) (hown : s.vm.findClass own = some m.cls) (hK : kK D cs s) {b : Nat} {fs : List Value} (ho : va_at D vwCl (b, .inr (ci, fs)) H) (hc : vwCl[ci]? = some (C, T, N)) (k : Nat) (hk : k < N) (hlink : (Cond.fieldLink own index (T k).1 (T k).2.1 (T k).2.2.1).before args s = true) (hfin : (T k).2.2.2 = true) (hin2 : meth.name = "<init>") (hdecl : (T k).1 = own) {v : Value} (hn : narrow (ty0 k) v = v) (hfit : fits (ty0 k) v = true) (hl : k < fs.length) (d : decode cc pc = .ok (.putfield index, 3))
    (kk : ∀ (H1 : Heap) (j : Nat), va_at D vwCl (b, .inr (ci, fs.set k v)) H1 → H1.size = H.size → (∀ q, q ≠ b → H1[q]? = H[q]?) → W p l e R s m args below meth c H1 (locs ++ [⟨b, j⟩]) cells slots Q (F0 m (pc + 3) ls rest)) : W p l e R s m args below meth c H locs cells slots Q (F0 m pc ls (v :: .ref b :: rest)) := by
  have hap := va_apart (own := own) hts hin ty0 hty hnm hK.1 hc
  obtain ⟨r, h1, cell, q1, q2, q3, q4⟩ := ho
  have hr : r = (C, T, N) := Option.some.inj (h1.symm.trans hc)
  subst hr
  obtain ⟨hS, hfc, kC, hkC, hkind⟩ := hK.1.1 ci _ hc
  obtain ⟨cf, kf, fi, f, hi, hsl⟩ := hS k hk
  have hlay := hts _ (hin _ (u_in_lay hk))
  unfold u_lay at hlay
  rw [if_pos hfin] at hlay
  have hst := (u_facts hfc hkC (u_lays hts hin hk) hi).1
  have hcf : m.cls = cf := by
    obtain ⟨_, _, c', _, _, _, -, -, hf', -, -, -, hown2, -⟩ := Cond.laysFinal_spec hlay
    have e1 : c' = cf := by have := hi.symm.trans hf'; simp at this; exact this.1.symm
    rw [hdecl] at hown2
    rw [← e1]; exact Option.some.inj (hown.symm.trans hown2)
  have h6 := u_fits hfc hkC hkind (Or.inr hlay) hi (hty k hk) hn hfit
  refine W.putFinK hx hb hown hlink hi hst hcf hin2 (by rw [q2]; exact h6) q1 q3 (by rw [hsl]; exact k2_hasslot (q4 k hk)) rfl rfl d fun H' e1 e2 e3 => ?_
  rw [hsl] at e1 ⊢
  exact kk H' _ ⟨_, hc, t_OB.to (V := updV (vp_V fs) k v) ⟨_, e1, q2, q3, t_set q4 hap hk v⟩ (fun j _ => vp_updV_set hl v j)⟩ e2 e3
theorem x_iald (hx : p.tables.exec = Jvm.exec) (hb : c.code = cc) (hK : kK D cs s) {b n : Nat} {f : Nat → Int32} (hc : H[b]? = some (vp_cell (cs 0) (n, .inl f))) {i : Int} (hi : 0 ≤ i ∧ i < n) (hn : n < 2147483648) (d : decode cc pc = .ok (.iaload, 1)) (kk : W p l e R s m args below meth c H locs cells slots Q (F0 m (pc + 1) ls (.int (f i.toNat) :: rest))) : W p l e R s m args below meth c H locs cells slots Q (F0 m pc ls (.int (zI i) :: .ref b :: rest)) :=
  va_iald hx hb hK.1 (ws := [(b, .inl (cs 0, (n, .inl f)))]) (va_at1 hc) 0 0 rfl rfl (zI_in hi hn) d (by rw [zI_clamp (by omega)]; exact kk)
theorem x_zald (hx : p.tables.exec = Jvm.exec) (hb : c.code = cc) (hK : kK D cs s) {b n : Nat} {f : Nat → Int32} (hc : H[b]? = some (vp_cell (cs 2) (n, .inl f))) {i : Int} (hi : 0 ≤ i ∧ i < n) (hn : n < 2147483648) (d : decode cc pc = .ok (.baload, 1)) (kk : W p l e R s m args below meth c H locs cells slots Q (F0 m (pc + 1) ls (.int (f i.toNat) :: rest))) : W p l e R s m args below meth c H locs cells slots Q (F0 m pc ls (.int (zI i) :: .ref b :: rest)) :=
  va_zald hx hb hK.1 (ws := [(b, .inl (cs 2, (n, .inl f)))]) (va_at1 hc) 0 2 rfl rfl (zI_in hi hn) d (by rw [zI_clamp (by omega)]; exact kk)
theorem x_cald (hx : p.tables.exec = Jvm.exec) (hb : c.code = cc) (hK : kK D cs s) {b n : Nat} {f : Nat → Int32} (hc : H[b]? = some (vp_cell (cs 3) (n, .inl f))) {i : Int} (hi : 0 ≤ i ∧ i < n) (hn : n < 2147483648) (d : decode cc pc = .ok (.caload, 1)) (kk : W p l e R s m args below meth c H locs cells slots Q (F0 m (pc + 1) ls (.int (f i.toNat) :: rest))) : W p l e R s m args below meth c H locs cells slots Q (F0 m pc ls (.int (zI i) :: .ref b :: rest)) :=
  va_cald hx hb hK.1 (ws := [(b, .inl (cs 3, (n, .inl f)))]) (va_at1 hc) 0 3 rfl rfl (zI_in hi hn) d (by rw [zI_clamp (by omega)]; exact kk)
theorem x_aald4 (hx : p.tables.exec = Jvm.exec) (hb : c.code = cc) (hK : kK D cs s) {b n : Nat} {f : Nat → Option Nat} (hc : H[b]? = some (vp_cell (cs 4) (n, .inr (.inr (.inr (.inr f)))))) {i : Int} (hi : 0 ≤ i ∧ i < n) (hn : n < 2147483648) (d : decode cc pc = .ok (.aaload, 1)) (kk : W p l e R s m args below meth c H locs cells slots Q (F0 m (pc + 1) ls (va_rf (f i.toNat) :: rest))) : W p l e R s m args below meth c H locs cells slots Q (F0 m pc ls (.int (zI i) :: .ref b :: rest)) :=
  va_aldq hx hb hK.1 (ws := [(b, .inl (cs 4, (n, .inr (.inr (.inr (.inr f))))))]) (va_at1 hc) 0 4 rfl rfl (zI_in hi hn) d (by rw [zI_clamp (by omega)]; exact kk)
theorem x_aald5 (hx : p.tables.exec = Jvm.exec) (hb : c.code = cc) (hK : kK D cs s) {b n : Nat} {f : Nat → Option Nat} (hc : H[b]? = some (vp_cell (cs 5) (n, .inr (.inr (.inr (.inr f)))))) {i : Int} (hi : 0 ≤ i ∧ i < n) (hn : n < 2147483648) (d : decode cc pc = .ok (.aaload, 1)) (kk : W p l e R s m args below meth c H locs cells slots Q (F0 m (pc + 1) ls (va_rf (f i.toNat) :: rest))) : W p l e R s m args below meth c H locs cells slots Q (F0 m pc ls (.int (zI i) :: .ref b :: rest)) :=
  va_aldq hx hb hK.1 (ws := [(b, .inl (cs 5, (n, .inr (.inr (.inr (.inr f))))))]) (va_at1 hc) 0 5 rfl rfl (zI_in hi hn) d (by rw [zI_clamp (by omega)]; exact kk)
theorem x_aald6 (hx : p.tables.exec = Jvm.exec) (hb : c.code = cc) (hK : kK D cs s) {b n : Nat} {f : Nat → Option Nat} (hc : H[b]? = some (vp_cell (cs 6) (n, .inr (.inr (.inr (.inr f)))))) {i : Int} (hi : 0 ≤ i ∧ i < n) (hn : n < 2147483648) (d : decode cc pc = .ok (.aaload, 1)) (kk : W p l e R s m args below meth c H locs cells slots Q (F0 m (pc + 1) ls (va_rf (f i.toNat) :: rest))) : W p l e R s m args below meth c H locs cells slots Q (F0 m pc ls (.int (zI i) :: .ref b :: rest)) :=
  va_aldq hx hb hK.1 (ws := [(b, .inl (cs 6, (n, .inr (.inr (.inr (.inr f))))))]) (va_at1 hc) 0 6 rfl rfl (zI_in hi hn) d (by rw [zI_clamp (by omega)]; exact kk)
theorem x_iast (hx : p.tables.exec = Jvm.exec) (hb : c.code = cc) (hK : kK D cs s) {b n : Nat} {f : Nat → Int32} (hc : H[b]? = some (vp_cell (cs 0) (n, .inl f))) {i : Int} {x : Int32} (hi : 0 ≤ i ∧ i < n) (hn : n < 2147483648) (d : decode cc pc = .ok (.iastore, 1)) (kk : ∀ (H1 : Heap) (j : Nat), H1[b]? = some (vp_cell (cs 0) (n, .inl (upd f i.toNat x))) → H1.size = H.size → (∀ q, q ≠ b → H1[q]? = H[q]?) → W p l e R s m args below meth c H1 (locs ++ [⟨b, j⟩]) cells slots Q (F0 m (pc + 1) ls rest)) : W p l e R s m args below meth c H locs cells slots Q (F0 m pc ls (.int x :: .int (zI i) :: .ref b :: rest)) := by
  refine W.iast hx hb hc ((hK.1.2 0 _ rfl).1 n (fun j => .int (f j))) (fun q => by cases q) (by show ¬ (zI i < 0 ∨ (arrV _ _ _).slots.size ≤ _); rw [arrV_size]; exact zI_in hi hn) rfl rfl d fun H1 e z oq => ?_
  refine kk H1 _ ?_ z oq
  rw [e, zI_clamp (by omega)]
  rw [vp_cell_i, vp_cell_i, arrV_store]
  congr 2
  funext q
  by_cases hq : q = i.toNat
  · subst hq
    simp [updV, upd]
  · simp [updV, upd, hq]
theorem x_zast (hx : p.tables.exec = Jvm.exec) (hb : c.code = cc) (hK : kK D cs s) {b n : Nat} {f : Nat → Int32} (hc : H[b]? = some (vp_cell (cs 2) (n, .inl f))) {i : Int} {x : Int32} (hx01 : narrow .boolean (.int x) = .int x) (hi : 0 ≤ i ∧ i < n) (hn : n < 2147483648) (d : decode cc pc = .ok (.bastore, 1)) (kk : ∀ (H1 : Heap) (j : Nat), H1[b]? = some (vp_cell (cs 2) (n, .inl (upd f i.toNat x))) → H1.size = H.size → (∀ q, q ≠ b → H1[q]? = H[q]?) → W p l e R s m args below meth c H1 (locs ++ [⟨b, j⟩]) cells slots Q (F0 m (pc + 1) ls rest)) : W p l e R s m args below meth c H locs cells slots Q (F0 m pc ls (.int x :: .int (zI i) :: .ref b :: rest)) := by
  refine W.zast hx hb hc ((hK.1.2 2 _ rfl).1 n (fun j => .int (f j))) (fun q => by cases q) (by show ¬ (zI i < 0 ∨ (arrV _ _ _).slots.size ≤ _); rw [arrV_size]; exact zI_in hi hn) rfl rfl d fun H1 e z oq => ?_
  refine kk H1 _ ?_ z oq
  rw [e, zI_clamp (by omega), hx01]
  rw [vp_cell_i, vp_cell_i, arrV_store]
  congr 2
  funext q
  by_cases hq : q = i.toNat
  · subst hq
    simp [updV, upd]
  · simp [updV, upd, hq]
theorem x_cast (hx : p.tables.exec = Jvm.exec) (hb : c.code = cc) (hK : kK D cs s) {b n : Nat} {f : Nat → Int32} (hc : H[b]? = some (vp_cell (cs 3) (n, .inl f))) {i : Int} {x : Int32} (hx01 : narrow .char (.int x) = .int x) (hi : 0 ≤ i ∧ i < n) (hn : n < 2147483648) (d : decode cc pc = .ok (.castore, 1)) (kk : ∀ (H1 : Heap) (j : Nat), H1[b]? = some (vp_cell (cs 3) (n, .inl (upd f i.toNat x))) → H1.size = H.size → (∀ q, q ≠ b → H1[q]? = H[q]?) → W p l e R s m args below meth c H1 (locs ++ [⟨b, j⟩]) cells slots Q (F0 m (pc + 1) ls rest)) : W p l e R s m args below meth c H locs cells slots Q (F0 m pc ls (.int x :: .int (zI i) :: .ref b :: rest)) := by
  refine W.cast hx hb hc ((hK.1.2 3 _ rfl).1 n (fun j => .int (f j))) (fun q => by cases q) (by show ¬ (zI i < 0 ∨ (arrV _ _ _).slots.size ≤ _); rw [arrV_size]; exact zI_in hi hn) rfl rfl d fun H1 e z oq => ?_
  refine kk H1 _ ?_ z oq
  rw [e, zI_clamp (by omega), hx01]
  rw [vp_cell_i, vp_cell_i, arrV_store]
  congr 2
  funext q
  by_cases hq : q = i.toNat
  · subst hq
    simp [updV, upd]
  · simp [updV, upd, hq]
/-! calls -/
theorem x_rc {b ci : Nat} {fs : List Value} {q : vw_C} (hK : kK D cs s) (ho : va_at D vwCl (b, .inr (ci, fs)) H) (hc : vwCl[ci]? = some q) : ∃ cell : Cell, H[b]? = some cell ∧ cell.vm.isStatics = false ∧ s.vm.findClass q.1 = some cell.cls := va_recv hK.1 (va_at1 ho) (q0 := 0) hc rfl
theorem kW_pre {P : Heap → Prop} {as : List Value} (hK : kK D cs s) (hP : P H) : ∀ U : State, U.heap = H → s.WarmedH U.vm → va_Pc as (kW D cs P) as.toArray U := fun U hU hW => ⟨rfl, hK.warm hW, by rw [hU]; exact hP⟩
theorem x_retR {v : Option Value} {a : Array Value} {st0 : List Value} (hr : CallRun p l e R s m args below meth c H locs cells slots 0 0 (F0 m pc ls st0) rest (kS v a) (fun _ => False)) (kk : W p l e R s m args below meth c H locs cells slots Q (F0 m (pc + 3) ls (v.toList ++ rest))) : W p l e R s m args below meth c H locs cells slots Q (F0 m pc ls st0) := by
  intro T hT X
  obtain ⟨v2, st₀, t, T', L, h0, X', hL, e1, ⟨hv, hh⟩, st⟩ := hr T hT X
  cases hv
  obtain ⟨t2, a1, b1⟩ := kk T' (by rw [e1, hh, h0]) (Stand.forget X' (fun q h => (hL q h).elim))
  exact ⟨t2, st t2 a1, b1⟩
theorem x_retM {v : Option Value} {B : Heap → Prop} {A A0 : Nat → Prop} {H0 : Heap} {a : Array Value} {st0 : List Value} (hr : va_Run p l e R s m args below meth c H locs cells slots 0 0 (F0 m pc ls st0) rest (kQ v B A a) A) (hS : va_S A0 H0 H locs) (hA : ∀ q, A q → A0 q)
    (kk : ∀ (H1 : Heap) (locs1 : List Loc), B H1 → kF A H H1 → va_S A0 H0 H1 locs1 → W p l e R s m args below meth c H1 locs1 cells slots Q (F0 m (pc + 3) ls (v.toList ++ rest))) : W p l e R s m args below meth c H locs cells slots Q (F0 m pc ls st0) := by
  intro T hT X
  obtain ⟨v2, st₀, t, T', L, h0, X', hL, e1, e2, ⟨hv, hB, hz, hk⟩, st⟩ := hr T hT X
  cases hv
  rw [h0] at hz hk
  obtain ⟨t2, a1, b1⟩ := kk T'.heap (locs ++ L) (by rw [e1]; exact hB) ⟨by rw [e1]; exact hz, fun q h1 h2 => by rw [e1]; exact hk q h1 h2⟩
    ⟨Nat.le_trans hS.1 (by rw [e1]; exact hz), fun q h1 h2 => by rw [e1, hk q (Nat.lt_of_lt_of_le h1 hS.1) (fun z => h2 (hA q z))]; exact hS.2.1 q h1 h2, fun q hq => by
      rcases List.mem_append.mp hq with h | h
      · exact hS.2.2 q h
      · exact hA _ (hL q h)⟩ T' rfl X'
  exact ⟨t2, st t2 a1, b1⟩
variable {y : MethodName} {bytes : ByteArray} {maxL nL n index : Nat} {ret : Option FieldType} {ws : List Cond} {rm : Room} {Ts : List Cond} {own C : String} {b : Nat} {As : List Value} {P : Heap → Prop} {B : Heap → Prop} {A A0 : Nat → Prop} {H0 : Heap} {v : Value}
theorem x_callVR (S : CallFix p m c cc nL s args Ts own) (hK : kK D cs s) (hM : kR D cs l y ws rm (.ref b :: As) P (some v)) (cw : CallW R s args own C index y bytes maxL ret ws rm 0 0 n) (hrc : ∃ cell : Cell, H[b]? = some cell ∧ cell.vm.isStatics = false ∧ s.vm.findClass C = some cell.cls) (hP : P H) (hn : As.length = n) (hsize : ls.size = nL) (hW : (rest.map fun v => v.category).sum ≤ 8) (d : decode cc pc = .ok (.invokevirtual index, 3)) (hf : cells ≤ R.cells ∧ slots ≤ R.slots) (kk : W p l e R s m args below meth c H locs cells slots Q (F0 m (pc + 3) ls (v :: rest))) : W p l e R s m args below meth c H locs cells slots Q (F0 m pc ls (As.reverse ++ .ref b :: rest)) :=
  x_retR (W.runV S hM cw ⟨kW_blind, hrc, kW_pre hK hP⟩ rfl hn hsize rfl (lv_room hW) d hf) kk
theorem x_callSR (S : CallFix p m c cc nL s args Ts own) (hK : kK D cs s) (hM : kR D cs l y ws rm As P (some v)) (cw : CallB R s args own index y bytes maxL ret ws rm 0 0 n ∧ (Cond.static y).before args s = true) (hP : P H) (hn : As.length = n) (hsize : ls.size = nL) (hW : (rest.map fun v => v.category).sum ≤ 8) (d : decode cc pc = .ok (.invokestatic index, 3)) (hf : cells ≤ R.cells ∧ slots ≤ R.slots) (kk : W p l e R s m args below meth c H locs cells slots Q (F0 m (pc + 3) ls (v :: rest))) : W p l e R s m args below meth c H locs cells slots Q (F0 m pc ls (As.reverse ++ rest)) :=
  x_retR (W.runS S hM cw ⟨kW_blind, kW_pre hK hP⟩ rfl hn hsize rfl (lv_room hW) d hf) kk
theorem x_callVM (S : CallFix p m c cc nL s args Ts own) (hK : kK D cs s) (hM : kM D cs l y ws rm (.ref b :: As) P (some v) B A) (cw : CallW R s args own C index y bytes maxL ret ws rm 0 0 n) (hrc : ∃ cell : Cell, H[b]? = some cell ∧ cell.vm.isStatics = false ∧ s.vm.findClass C = some cell.cls) (hP : P H) (hn : As.length = n) (hsize : ls.size = nL) (hW : (rest.map fun v => v.category).sum ≤ 8) (d : decode cc pc = .ok (.invokevirtual index, 3)) (hf : cells ≤ R.cells ∧ slots ≤ R.slots) (hS : va_S A0 H0 H locs) (hA : ∀ q, A q → A0 q)
    (kk : ∀ (H1 : Heap) (locs1 : List Loc), B H1 → kF A H H1 → va_S A0 H0 H1 locs1 → W p l e R s m args below meth c H1 locs1 cells slots Q (F0 m (pc + 3) ls (v :: rest))) : W p l e R s m args below meth c H locs cells slots Q (F0 m pc ls (As.reverse ++ .ref b :: rest)) :=
  x_retM (va_runV S hM cw ⟨kW_blind, hrc, kW_pre hK hP⟩ rfl hn hsize rfl (lv_room hW) d hf) hS hA kk
theorem x_callVMn (S : CallFix p m c cc nL s args Ts own) (hK : kK D cs s) (hM : kM D cs l y ws rm (.ref b :: As) P none B A) (cw : CallW R s args own C index y bytes maxL ret ws rm 0 0 n) (hrc : ∃ cell : Cell, H[b]? = some cell ∧ cell.vm.isStatics = false ∧ s.vm.findClass C = some cell.cls) (hP : P H) (hn : As.length = n) (hsize : ls.size = nL) (hW : (rest.map fun v => v.category).sum ≤ 8) (d : decode cc pc = .ok (.invokevirtual index, 3)) (hf : cells ≤ R.cells ∧ slots ≤ R.slots) (hS : va_S A0 H0 H locs) (hA : ∀ q, A q → A0 q)
    (kk : ∀ (H1 : Heap) (locs1 : List Loc), B H1 → kF A H H1 → va_S A0 H0 H1 locs1 → W p l e R s m args below meth c H1 locs1 cells slots Q (F0 m (pc + 3) ls rest)) : W p l e R s m args below meth c H locs cells slots Q (F0 m pc ls (As.reverse ++ .ref b :: rest)) :=
  x_retM (va_runV S hM cw ⟨kW_blind, hrc, kW_pre hK hP⟩ rfl hn hsize rfl (lv_room hW) d hf) hS hA kk
/-! ends -/
theorem x_iretR (hx : p.tables.exec = Jvm.exec) (hb : c.code = cc) (hr : meth.sig.returnType = some .int) (hlocks : meth.locks = false) {e0 e1 : Int} (he : e0 = e1) (hH : H = s.heap) (d : decode cc pc = .ok (.ireturn, 1)) : W p l e R s m args below meth c H [] 0 0 (MQ below (kS (some (.int (zI e1)))) args s 0 0 (fun _ => False)) (F0 m pc ls [.int (zI e0)]) := by
  subst he
  exact W.iret (v := zI e0) hx hb hr (fun t ht _ => ⟨rfl, by rw [ht, hH]⟩) (fun _ h => by cases h) d hlocks
theorem x_zretR (hx : p.tables.exec = Jvm.exec) (hb : c.code = cc) (hr : meth.sig.returnType = some .boolean) (hlocks : meth.locks = false) {e0 e1 : Int} (he : e0 = e1) (h01 : e0 = 0 ∨ e0 = 1) (hH : H = s.heap) (d : decode cc pc = .ok (.ireturn, 1)) : W p l e R s m args below meth c H [] 0 0 (MQ below (kS (some (.int (zI e1)))) args s 0 0 (fun _ => False)) (F0 m pc ls [.int (zI e0)]) := by
  subst he
  exact W.zret (v := zI e0) hx hb hr (by rcases h01 with h | h <;> subst h <;> rfl) (fun t ht _ => ⟨rfl, by rw [ht, hH]⟩) (fun _ h => by cases h) d hlocks
theorem x_lretR (hx : p.tables.exec = Jvm.exec) (hb : c.code = cc) (hr : meth.sig.returnType = some .long) (hlocks : meth.locks = false) {e0 e1 : Int} (he : e0 = e1) (hH : H = s.heap) (d : decode cc pc = .ok (.lreturn, 1)) : W p l e R s m args below meth c H [] 0 0 (MQ below (kS (some (.long (zL e1)))) args s 0 0 (fun _ => False)) (F0 m pc ls [.long (zL e0)]) := by
  subst he
  exact W.lret (v := zL e0) hx hb hr (fun t ht _ => ⟨rfl, by rw [ht, hH]⟩) (fun _ h => by cases h) d hlocks
theorem x_aretR (hx : p.tables.exec = Jvm.exec) (hb : c.code = cc) {rt : FieldType} (hr : meth.sig.returnType = some rt) (hrt : (∃ n, rt = .object n) ∨ ∃ t, rt = .array t) (hlocks : meth.locks = false) {v0 v1 : Value} (he : v0 = v1) (hv : v0 = .null ∨ ∃ a, v0 = .ref a) (hH : H = s.heap) (d : decode cc pc = .ok (.areturn, 1)) : W p l e R s m args below meth c H [] 0 0 (MQ below (kS (some v1)) args s 0 0 (fun _ => False)) (F0 m pc ls [v0]) := by
  subst he
  exact W.aret hx hb hr hrt hv (fun t ht _ => ⟨rfl, by rw [ht, hH]⟩) (fun _ h => by cases h) d hlocks
theorem x_iretM (hx : p.tables.exec = Jvm.exec) (hb : c.code = cc) (hr : meth.sig.returnType = some .int) (hlocks : meth.locks = false) {e0 e1 : Int} (he : e0 = e1) (hB : B H) (hS : va_S A s.heap H locs) (d : decode cc pc = .ok (.ireturn, 1)) : W p l e R s m args below meth c H locs 0 0 (MQ below (kQ (some (.int (zI e1))) B A) args s 0 0 A) (F0 m pc ls [.int (zI e0)]) := by
  subst he
  exact W.iret (v := zI e0) hx hb hr (fun t ht _ => ⟨rfl, by rw [ht]; exact hB, hS.F ht⟩) hS.2.2 d hlocks
theorem x_vretM (hx : p.tables.exec = Jvm.exec) (hb : c.code = cc) (hr : meth.sig.returnType = none) (hlocks : meth.locks = false) (hB : B H) (hS : va_S A s.heap H locs) (d : decode cc pc = .ok (.return_, 1)) : W p l e R s m args below meth c H locs 0 0 (MQ below (kQ none B A) args s 0 0 A) (F0 m pc ls []) :=
  W.vret hx hb hr (fun t ht _ => ⟨rfl, by rw [ht]; exact hB, hS.F ht⟩) hS.2.2 d hlocks
theorem x_aretM (hx : p.tables.exec = Jvm.exec) (hb : c.code = cc) {rt : FieldType} (hr : meth.sig.returnType = some rt) (hrt : (∃ n, rt = .object n) ∨ ∃ t, rt = .array t) (hlocks : meth.locks = false) {v0 v1 : Value} (he : v0 = v1) (hv : v0 = .null ∨ ∃ a, v0 = .ref a) (hB : B H) (hS : va_S A s.heap H locs) (d : decode cc pc = .ok (.areturn, 1)) : W p l e R s m args below meth c H locs 0 0 (MQ below (kQ (some v1) B A) args s 0 0 A) (F0 m pc ls [v0]) := by
  subst he
  exact W.aret hx hb hr hrt hv (fun t ht _ => ⟨rfl, by rw [ht]; exact hB, hS.F ht⟩) hS.2.2 d hlocks
end XB
