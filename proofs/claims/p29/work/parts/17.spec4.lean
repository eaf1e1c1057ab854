/-! bits -/
def orI (a b : Int) : Int := ((a.toNat ||| b.toNat : Nat) : Int)
def shI (a k : Int) : Int := a * 2 ^ k.toNat
theorem zI_nat (n : Nat) : zI (n : Int) = nI n := rfl
theorem orI_rng {a b : Int} (ha : 0 ≤ a ∧ a < 2147483648) (hb : 0 ≤ b ∧ b < 2147483648) : 0 ≤ orI a b ∧ orI a b < 2147483648 := by
  have h1 : a.toNat < 2 ^ 31 := by omega
  have h2 : b.toNat < 2 ^ 31 := by omega
  have h3 := Nat.or_lt_two_pow h1 h2
  unfold orI
  omega
theorem nI_bits (n : Nat) : (nI n).toBitVec = BitVec.ofNat 32 n := rfl
theorem nI_or (a b : Nat) : nI a ||| nI b = nI (a ||| b) := by
  apply Int32.toBitVec.inj
  rw [Int32.toBitVec_or, nI_bits, nI_bits, nI_bits]
  exact (BitVec.ofNat_or (x := a) (y := b)).symm
theorem zI_or {a b : Int} (ha : 0 ≤ a) (hb : 0 ≤ b) : zI a ||| zI b = zI (orI a b) := by
  obtain ⟨n, rfl⟩ := Int.eq_ofNat_of_zero_le ha
  obtain ⟨k, rfl⟩ := Int.eq_ofNat_of_zero_le hb
  show nI n ||| nI k = nI ((n : Int).toNat ||| (k : Int).toNat)
  rw [Int.toNat_natCast, Int.toNat_natCast, nI_or]
theorem two_pos (m : Nat) : (0 : Int) < 2 ^ m := Int.pow_pos (by decide)
theorem two_30 {m : Nat} (h : m ≤ 30) : (2 : Int) ^ m ≤ 1073741824 := by
  have h1 : (2 : Nat) ^ m ≤ 2 ^ 30 := Nat.pow_le_pow_right (by decide) h
  have h2 : ((2 ^ m : Nat) : Int) = (2 : Int) ^ m := by simp
  have h3 : (2 : Nat) ^ 30 = 1073741824 := by simp
  omega
theorem zI_shl {a k : Int} (ha : 0 ≤ a ∧ a ≤ 1) (hk : 0 ≤ k ∧ k ≤ 30) : zI a <<< (zI k &&& 31) = zI (shI a k) := by
  rcases (show k = 0 ∨ k = 1 ∨ k = 2 ∨ k = 3 ∨ k = 4 ∨ k = 5 ∨ k = 6 ∨ k = 7 ∨ k = 8 ∨ k = 9 ∨ k = 10 ∨ k = 11 ∨ k = 12 ∨ k = 13 ∨ k = 14 ∨ k = 15 ∨ k = 16 ∨ k = 17 ∨ k = 18 ∨ k = 19 ∨ k = 20 ∨ k = 21 ∨ k = 22 ∨ k = 23 ∨ k = 24 ∨ k = 25 ∨ k = 26 ∨ k = 27 ∨ k = 28 ∨ k = 29 ∨ k = 30 by omega) with h | h | h | h | h | h | h | h | h | h | h | h | h | h | h | h | h | h | h | h | h | h | h | h | h | h | h | h | h | h | h <;> subst h <;> rcases (show a = 0 ∨ a = 1 by omega) with h | h <;> subst h <;> rfl
theorem shI_rng {a k : Int} (ha : 0 ≤ a ∧ a ≤ 1) (hk : 0 ≤ k ∧ k ≤ 30) : 0 ≤ shI a k ∧ shI a k < 2147483648 := by
  have h1 := two_pos k.toNat
  have h2 := two_30 (m := k.toNat) (by omega)
  unfold shI
  rcases (show a = 0 ∨ a = 1 by omega) with h | h <;> subst h <;> omega
section XB4
variable {p : Program} {l : Launch} {e : Env} {R : Room} {s : State} {m : MethodId} {args : Array Value} {below : List Frame} {meth : Method} {c : Code} {H : Heap} {locs : List Loc} {cells slots : Nat} {Q : State → Prop} {cc : ByteArray} {pc : Nat} {ls : Array Slot} {rest : List Value}
theorem x_ior (hx : p.tables.exec = Jvm.exec) (hb : c.code = cc) {a b : Int} (ha : 0 ≤ a) (hb0 : 0 ≤ b) (d : decode cc pc = .ok (.ior, 1)) (k : W p l e R s m args below meth c H locs cells slots Q (F0 m (pc + 1) ls (.int (zI (orI a b)) :: rest))) : W p l e R s m args below meth c H locs cells slots Q (F0 m pc ls (.int (zI b) :: .int (zI a) :: rest)) := lv_ior hx hb d (by rw [zI_or ha hb0]; exact k)
theorem x_ishl (hx : p.tables.exec = Jvm.exec) (hb : c.code = cc) {a b : Int} (ha : 0 ≤ a ∧ a ≤ 1) (hb0 : 0 ≤ b ∧ b ≤ 30) (d : decode cc pc = .ok (.ishl, 1)) (k : W p l e R s m args below meth c H locs cells slots Q (F0 m (pc + 1) ls (.int (zI (shI a b)) :: rest))) : W p l e R s m args below meth c H locs cells slots Q (F0 m pc ls (.int (zI b) :: .int (zI a) :: rest)) := lv_ishl hx hb d (by rw [zI_shl ha hb0]; exact k)
end XB4
/-! what the questions answer -/
def unW (σ : Int → Int) (k : Int) : Int := if σ (11 + 13 * k + 2) = 160 then -6 else if σ 3 - σ (11 + 13 * k + 9) < 1 then 1 else σ 3 - σ (11 + 13 * k + 9)
def ofS (σ : Int → Int) (k w : Int) : Int :=
  if w = 0 then (if σ (11 + 13 * k + 0) < 0 then -6 else σ (11 + 13 * k + 0))
  else if w = 1 then pwr σ k
  else if 2 ≤ w ∧ w ≤ 5 then σ (11 + 13 * k + (w - 1))
  else if w = 6 then σ (0 + 11 + 13 * k + 5) / 6000
  else if 7 ≤ w ∧ w ≤ 9 then σ (11 + 13 * k + (w - 1))
  else if w = 10 then unW σ k
  else if w = 11 then σ (11 + 13 * k + 10)
  else -2
def trn (σ : Int → Int) (k : Int) : Int := σ (11 + 13 * k + 3) + σ (11 + 13 * k + 4)
def msS (σ : Int → Int) (k : Int) : Int := σ (0 + 11 + 13 * k + 5) - 6000 * trn σ k - σ (11 + 13 * k + 1) + 10000000000
/-- what misses() needs of a meter -/
def mOK (σ : Int → Int) (k : Int) : Prop := (-2147483648 ≤ trn σ k ∧ trn σ k < 2147483648) ∧ (0 ≤ σ (11 + 13 * k + 1) ∧ σ (11 + 13 * k + 1) < 6000) ∧ (0 ≤ σ (0 + 11 + 13 * k + 5) ∧ σ (0 + 11 + 13 * k + 5) < 1000000000000)
theorem msS_rng {σ : Int → Int} {k : Int} (h : mOK σ k) : -9223372036854775808 ≤ msS σ k ∧ msS σ k < 9223372036854775808 := by
  obtain ⟨h1, h2, h3⟩ := h
  unfold msS
  omega
def fedS (σ : Int → Int) (o : Int) : Nat → Int
  | 0 => 0
  | n + 1 => orI (fedS σ o n) (if climb σ o 7 n = o then shI 1 n else 0)
theorem fedS_rng (σ : Int → Int) (o : Int) : ∀ n : Nat, n ≤ 7 → 0 ≤ fedS σ o n ∧ fedS σ o n < 2147483648 := by
  intro n
  induction n with
  | zero => intro _; exact ⟨Int.le_refl _, by show (0 : Int) < 2147483648; decide⟩
  | succ n ih =>
    intro h
    refine orI_rng (ih (by omega)) ?_
    split
    · exact shI_rng (by decide) (by omega)
    · decide
def onS (σ : Int → Int) : Nat → Int
  | 0 => 0
  | n + 1 => orI (onS σ n) (if σ (102 + 3 * (n : Int) + 2) = 1 then shI 1 n else 0)
theorem onS_rng (σ : Int → Int) : ∀ n : Nat, n ≤ 12 → 0 ≤ onS σ n ∧ onS σ n < 2147483648 := by
  intro n
  induction n with
  | zero => intro _; exact ⟨Int.le_refl _, by show (0 : Int) < 2147483648; decide⟩
  | succ n ih =>
    intro h
    refine orI_rng (ih (by omega)) ?_
    split
    · exact shI_rng (by decide) (by omega)
    · decide
def brS (σ : Int → Int) : Nat → Int
  | 0 => 0
  | n + 1 => orI (brS σ n) (shI (σ (11 + 13 * (n : Int) + 7)) n)
theorem brS_rng {σ : Int → Int} (hb : ∀ k : Int, 0 ≤ k → k < σ 7 → σ (11 + 13 * k + 7) = 0 ∨ σ (11 + 13 * k + 7) = 1) : ∀ n : Nat, n ≤ 7 → (n : Int) ≤ σ 7 → 0 ≤ brS σ n ∧ brS σ n < 2147483648 := by
  intro n
  induction n with
  | zero => intro _ _; exact ⟨Int.le_refl _, by show (0 : Int) < 2147483648; decide⟩
  | succ n ih =>
    intro h h2
    refine orI_rng (ih (by omega) (by omega)) (shI_rng ?_ (by omega))
    have := hb n (by omega) (by omega)
    omega
def trS (σ : Int → Int) : Nat → Int
  | 0 => 0
  | n + 1 => trS σ n + trn σ n
def cntS (σ : Int → Int) (kn ln w : Int) : Int :=
  if w = 0 then σ 6 else if w = 1 then (if 1320 ≤ σ 6 % 1440 ∨ σ 6 % 1440 < 360 then 1 else 0) else if w = 2 then σ 7 else if w = 3 then σ 8
  else if w = 4 then onS σ (σ 8).toNat else if w = 5 then brS σ (σ 7).toNat else if w = 6 then trS σ (σ 7).toNat
  else if w = 7 then σ 9 else if w = 8 then σ 10 else if w = 15 then ln else if w = 16 then kn else if 9 ≤ w ∧ w ≤ 14 then σ (w - 9) else -2
/-- the next minute of a meter in the row beside -/
def stp (τ : Int → Int) (k : Int) : Int → Int := up (pOne τ 138 k) 144 (pOne τ 138 k 144 + 1)
theorem gOK_stp {τ : Int → Int} {k : Int} (h : gOK τ 138) (hk : 0 ≤ k ∧ k < τ 7) (ht : τ 144 < 900000) : gOK (stp τ k) 138 := by
  have e6 : pOne τ 138 k 144 = τ 144 := pOne_n (by omega)
  have h6 : 0 ≤ τ 144 ∧ τ 144 < 1000000 := h.2.1.2.2.2.2
  have := gOK_time (v := pOne τ 138 k 144 + 1) (gOK_pOne h (Or.inr rfl) hk) (Or.inr rfl) (by omega)
  exact this
theorem stp_7 {τ : Int → Int} {k : Int} (hk : 0 ≤ k) : stp τ k 7 = τ 7 := (up_n (by omega)).trans (pOne_n (by omega))
theorem stp_low {τ : Int → Int} {k i : Int} (hk : 0 ≤ k) (hi : i < 138) : stp τ k i = τ i := (up_n (by omega)).trans (pOne_n (by omega))
theorem stp_144 {τ : Int → Int} {k : Int} (hk : 0 ≤ k) : stp τ k 144 = τ 144 + 1 := by
  unfold stp
  rw [up_s, pOne_n (by omega)]
def tiR (k : Int) : Nat → (Int → Int) → Int → Int
  | 0, _, _ => -6
  | f + 1, τ, n => if 0 < pOneP τ 138 k / 6000 then n else tiR k f (stp τ k) (n + 1)
def tiS (k : Int) : Nat → (Int → Int) → Int → Int
  | 0, τ => τ
  | f + 1, τ => if 0 < pOneP τ 138 k / 6000 then stp τ k else tiS k f (stp τ k)
def wtS (τ : Int → Int) (k : Int) : Nat → Int → Int
  | 0 => τ
  | n + 1 => stp (wtS τ k n) k
theorem gOK_beside {σ : Int → Int} (h : gOK σ 0) : gOK (cpN σ σ 138 138) 138 := by
  obtain ⟨hL, hS, hD⟩ := h
  have h7 := hL.1
  have lo : ∀ i : Int, i < 138 → cpN σ σ 138 138 i = σ i := fun i hi => cpN_out (by omega)
  have up' : ∀ i : Int, 138 ≤ i → i < 276 → cpN σ σ 138 138 i = σ (i - 138) := fun i h1 h2 => cpN_in (by omega)
  refine ⟨lOK_of hL (lo _ (by omega)) (lo _ (by omega)) (fun i a b => lo _ (by omega)) (fun j a b => lo _ (by omega)), ?_, fun j a b => ?_⟩
  · unfold sOK at hS ⊢
    rw [up' _ (by omega) (by omega), up' _ (by omega) (by omega), up' _ (by omega) (by omega), up' _ (by omega) (by omega), up' _ (by omega) (by omega)]
    exact hS
  · rw [lo _ (by omega)] at b
    have hd := hD j a b
    unfold dOK at hd ⊢
    rw [up' _ (by omega) (by omega), up' _ (by omega) (by omega), up' _ (by omega) (by omega), up' _ (by omega) (by omega)]
    rw [show 138 + 11 + 13 * j + 1 - 138 = 0 + 11 + 13 * j + 1 by omega, show 138 + 11 + 13 * j + 2 - 138 = 0 + 11 + 13 * j + 2 by omega, show 138 + 11 + 13 * j + 9 - 138 = 0 + 11 + 13 * j + 9 by omega, show 138 + 11 + 13 * j + 7 - 138 = 0 + 11 + 13 * j + 7 by omega]
    exact hd
def wst (σ : Int → Int) : Nat → Int
  | 0 => -6
  | n + 1 => if wst σ n = -6 ∨ msS σ (wst σ n) < msS σ n then (n : Int) else wst σ n
theorem wst_rng (σ : Int → Int) : ∀ n : Nat, (wst σ n = -6 ∧ n = 0) ∨ (0 ≤ wst σ n ∧ wst σ n < n) := by
  intro n
  induction n with
  | zero => exact Or.inl ⟨rfl, rfl⟩
  | succ n ih =>
    unfold wst
    split <;> omega
def lgS (σ : Int → Int) (k : Int) : Nat → Int
  | 0 => 10000000 - trn σ k
  | n + 1 => lgS σ k n + (if σ (11 + 13 * ((n : Int) + 1) + 0) = k then trn σ ((n : Int) + 1) else 0)
/-! put: the characters of a number -/
def byS (x k : Int) : Int := x / 2 ^ (8 * k).toNat % 256
def ptE (x : Int) : Nat → Int
  | 0 => 0
  | n + 1 => if ptE x n = 1 ∨ byS x n = 0 then 1 else 0
def ptR (x : Int) : Nat → Int
  | 0 => 1
  | n + 1 => if ptR x n = 1 ∧ (ptE x (n + 1) = 1 → byS x n = 0) ∧ (ptE x (n + 1) ≠ 1 → 33 ≤ byS x n ∧ byS x n ≤ 126) then 1 else 0
def ptM (x : Int) : Nat → Int
  | 0 => 0
  | n + 1 => ptM x n + (if ptE x (n + 1) = 1 then 0 else 1)
theorem ptM_rng (x : Int) : ∀ n : Nat, 0 ≤ ptM x n ∧ ptM x n ≤ n := by
  intro n
  induction n with
  | zero => exact ⟨Int.le_refl _, Int.le_refl _⟩
  | succ n ih => unfold ptM; split <;> omega
theorem ptE_01 (x : Int) : ∀ n : Nat, ptE x n = 0 ∨ ptE x n = 1 := by
  intro n
  cases n with
  | zero => exact Or.inl rfl
  | succ n => unfold ptE; split <;> simp
theorem ptR_01 (x : Int) : ∀ n : Nat, ptR x n = 0 ∨ ptR x n = 1 := by
  intro n
  cases n with
  | zero => exact Or.inr rfl
  | succ n =>
    unfold ptR
    split
    · exact Or.inr rfl
    · exact Or.inl rfl
def ptW (pd : Int → Int) (ln x y j : Int) : Int → Int := fun i => if ln ≤ i ∧ i < ln + j then byS x (y - 1 - (i - ln)) else pd i
theorem ptW_0 (pd : Int → Int) (ln x y : Int) : ptW pd ln x y 0 = pd := by
  funext i
  exact if_neg (by omega)
theorem ptW_step {pd : Int → Int} {ln x y j i w : Int} (hi : i = ln + j) (hj : 0 ≤ j) (hw : w = byS x (y - 1 - j)) : up (ptW pd ln x y j) i w = ptW pd ln x y (j + 1) := by
  subst hi; subst hw
  funext z
  unfold up ptW
  by_cases e : z = ln + j
  · subst e
    rw [if_pos rfl, if_pos (by omega), show ln + j - ln = j by omega]
  · rw [if_neg e]
    by_cases q : ln ≤ z ∧ z < ln + j
    · rw [if_pos q, if_pos (by omega)]
    · rw [if_neg q, if_neg (by omega)]
theorem byS_rng (x k : Int) : 0 ≤ byS x k ∧ byS x k < 256 := by unfold byS; omega
/-- the machine's shift of a long, and its lowest byte -/
theorem lshr64 (a s : Int64) (k : Nat) (hs : (s.toBitVec.smod 64).toNat = k) : (a >>> s).toInt = a.toInt >>> k := by
  show (a.toBitVec.sshiftRight (s.toBitVec.smod 64).toNat).toInt = _
  rw [hs, BitVec.toInt_sshiftRight]
  rfl
theorem zL_shr {x k : Int} (hx : -9223372036854775808 ≤ x ∧ x < 9223372036854775808) (hk : 0 ≤ k ∧ k ≤ 7) : zL x >>> ((zI (8 * k)).toInt64 &&& 63) = zL (x / 2 ^ (8 * k).toNat) := by
  have hs : (((zI (8 * k)).toInt64 &&& 63).toBitVec.smod 64).toNat = (8 * k).toNat := by
    rcases (show k = 0 ∨ k = 1 ∨ k = 2 ∨ k = 3 ∨ k = 4 ∨ k = 5 ∨ k = 6 ∨ k = 7 by omega) with h | h | h | h | h | h | h | h <;> subst h <;> first | rfl | decide +kernel
  have h1 : (zL x >>> ((zI (8 * k)).toInt64 &&& 63)).toInt = x / 2 ^ (8 * k).toNat := by
    rw [lshr64 _ _ _ hs, zL_toInt hx, Int.shiftRight_eq_div_pow]
    simp
  rw [← h1, zL_of]
theorem zL_and255 (y : Int) : zL y &&& zL 255 = zL (y % 256) := by
  apply Int64.toBitVec.inj
  rw [Int64.toBitVec_and]
  apply BitVec.eq_of_toNat_eq
  rw [BitVec.toNat_and]
  show (BitVec.ofInt 64 y).toNat &&& (BitVec.ofInt 64 255).toNat = (BitVec.ofInt 64 (y % 256)).toNat
  rw [show (BitVec.ofInt 64 255).toNat = 2 ^ 8 - 1 from by decide, Nat.and_two_pow_sub_one_eq_mod, BitVec.toNat_ofInt, BitVec.toNat_ofInt]
  omega
section XB5
variable {p : Program} {l : Launch} {e : Env} {R : Room} {s : State} {m : MethodId} {args : Array Value} {below : List Frame} {meth : Method} {c : Code} {H : Heap} {locs : List Loc} {cells slots : Nat} {Q : State → Prop} {cc : ByteArray} {pc : Nat} {ls : Array Slot} {rest : List Value}
theorem x_lshr (hx : p.tables.exec = Jvm.exec) (hb : c.code = cc) {x k : Int} (hr : -9223372036854775808 ≤ x ∧ x < 9223372036854775808) (hk : 0 ≤ k ∧ k ≤ 7) (d : decode cc pc = .ok (.lshr, 1)) (kk : W p l e R s m args below meth c H locs cells slots Q (F0 m (pc + 1) ls (.long (zL (x / 2 ^ (8 * k).toNat)) :: rest))) : W p l e R s m args below meth c H locs cells slots Q (F0 m pc ls (.int (zI (8 * k)) :: .long (zL x) :: rest)) := lv_lshr hx hb d (zL_shr hr hk) kk
theorem x_land (hx : p.tables.exec = Jvm.exec) (hb : c.code = cc) {y : Int} (d : decode cc pc = .ok (.land, 1)) (kk : W p l e R s m args below meth c H locs cells slots Q (F0 m (pc + 1) ls (.long (zL (y % 256)) :: rest))) : W p l e R s m args below meth c H locs cells slots Q (F0 m pc ls (.long (zL 255) :: .long (zL y) :: rest)) := lv_land hx hb d (by rw [zL_and255]; exact kk)
end XB5
