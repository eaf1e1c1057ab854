/-! what the reference does with its numbers, in Int -/
def climb (σ : Int → Int) (o : Int) : Nat → Int → Int
  | 0, k => k
  | n + 1, k => if o < k then climb σ o n (σ (11 + 13 * k)) else k
def psum (σ : Int → Int) (o : Int) : Nat → Int
  | 0 => 0
  | n + 1 => psum σ o n + (if σ (102 + 3 * (n : Int) + 2) = 1 ∧ climb σ o 7 (σ (102 + 3 * (n : Int))) = o then σ (102 + 3 * (n : Int) + 1) else 0)
def pwr (σ : Int → Int) (o : Int) : Int := psum σ o (σ 8).toNat
/-- the loads and who feeds whom are in order -/
def lOK (σ : Int → Int) : Prop := (0 ≤ σ 7 ∧ σ 7 ≤ 7) ∧ (0 ≤ σ 8 ∧ σ 8 ≤ 12) ∧ (∀ i : Int, 1 ≤ i → i < σ 7 → 0 ≤ σ (11 + 13 * i) ∧ σ (11 + 13 * i) < i) ∧ (∀ j : Int, 0 ≤ j → j < σ 8 → (0 ≤ σ (102 + 3 * j) ∧ σ (102 + 3 * j) < σ 7) ∧ (1 ≤ σ (102 + 3 * j + 1) ∧ σ (102 + 3 * j + 1) ≤ 4000) ∧ (σ (102 + 3 * j + 2) = 0 ∨ σ (102 + 3 * j + 2) = 1))
/-- the settings and the time, at q -/
def sOK (σ : Int → Int) (q : Int) : Prop := (0 ≤ σ (q + 0) ∧ σ (q + 0) ≤ 99) ∧ (0 ≤ σ (q + 1) ∧ σ (q + 1) ≤ 9) ∧ (σ (q + 2) = 0 ∨ σ (q + 2) = 1) ∧ (100 ≤ σ (q + 3) ∧ σ (q + 3) ≤ 5000) ∧ (0 ≤ σ (q + 6) ∧ σ (q + 6) < 1000000)
/-- a meter, at q + 11 + 13 * k -/
def dOK (σ : Int → Int) (q k : Int) : Prop := (0 ≤ σ (q + 11 + 13 * k + 1) ∧ σ (q + 11 + 13 * k + 1) < 6000) ∧ (100 ≤ σ (q + 11 + 13 * k + 2) ∧ σ (q + 11 + 13 * k + 2) ≤ 160) ∧ (0 ≤ σ (q + 11 + 13 * k + 9) ∧ σ (q + 11 + 13 * k + 9) ≤ 5000) ∧ (σ (q + 11 + 13 * k + 7) = 0 ∨ σ (q + 11 + 13 * k + 7) = 1)
def goesS (σ : Int → Int) (q k pw : Int) : Int :=
  if σ (q + 0) < pw then (if σ (q + 11 + 13 * k + 7) = 1 then σ (q + 11 + 13 * k + 1) + pw * σ (q + 11 + 13 * k + 2) / 100 / 2 else σ (q + 11 + 13 * k + 1) + pw * σ (q + 11 + 13 * k + 2) / 100)
  else if 0 < pw ∨ σ (q + 11 + 13 * k + 7) = 1 then σ (q + 11 + 13 * k + 1)
  else if σ (q + 2) = 0 then σ (q + 11 + 13 * k + 1) + σ (q + 1)
  else if σ (q + 11 + 13 * k + 1) = 0 then 0
  else if 6000 < σ (q + 11 + 13 * k + 1) + σ (q + 1) then 6000 else σ (q + 11 + 13 * k + 1) + σ (q + 1)
def pOneA (σ : Int → Int) (q k : Int) : Int → Int := up σ (q + 11 + 13 * k + 5) (σ (q + 11 + 13 * k + 5) + pwr σ k)
def pOneP (σ : Int → Int) (q k : Int) : Int := goesS (pOneA σ q k) q k (pwr σ k)
def pOneB (σ : Int → Int) (q k : Int) : Int → Int := up (pOneA σ q k) (q + 11 + 13 * k + 1) (pOneP σ q k % 6000)
def pOneI (σ : Int → Int) (q k : Int) : Int := if 1320 ≤ pOneB σ q k (q + 6) % 1440 ∨ pOneB σ q k (q + 6) % 1440 < 360 then q + 11 + 13 * k + 4 else q + 11 + 13 * k + 3
def pOneC (σ : Int → Int) (q k : Int) : Int → Int := up (pOneB σ q k) (pOneI σ q k) (pOneB σ q k (pOneI σ q k) + pOneP σ q k / 6000)
def pOneD (σ : Int → Int) (q k : Int) : Int → Int := up (pOneC σ q k) (q + 11 + 13 * k + 9) (pOneC σ q k (q + 11 + 13 * k + 9) + 1)
def pOneE (σ : Int → Int) (q k : Int) : Int → Int := up (pOneD σ q k) (q + 11 + 13 * k + 9) 0
/-- a minute of a meter -/
def pOne (σ : Int → Int) (q k : Int) : Int → Int := if pOneD σ q k (q + 11 + 13 * k + 9) < pOneD σ q k (q + 3) then pOneD σ q k else up (pOneE σ q k) (q + 11 + 13 * k + 2) (pOneE σ q k (q + 11 + 13 * k + 2) + (if pOneE σ q k (q + 11 + 13 * k + 2) < 160 then 1 else 0))
theorem climb_stop {σ : Int → Int} {o k : Int} (h : k ≤ o) (f : Nat) : climb σ o f k = k := by
  cases f with
  | zero => rfl
  | succ n => exact if_neg (by omega)
theorem climb_go {σ : Int → Int} {o k : Int} {f : Nat} (h : o < k) : climb σ o (f + 1) k = climb σ o f (σ (11 + 13 * k)) := if_pos h
theorem psum_rng {σ : Int → Int} (h : lOK σ) (o : Int) : ∀ n : Nat, (n : Int) ≤ σ 8 → 0 ≤ psum σ o n ∧ psum σ o n ≤ 4000 * n := by
  intro n
  induction n with
  | zero => intro _; exact ⟨Int.le_refl _, Int.le_refl _⟩
  | succ n ih =>
    intro hn
    have h1 := ih (by omega)
    have h2 := (h.2.2.2 n (by omega) (by omega)).2.1
    unfold psum
    split <;> omega
theorem pwr_rng {σ : Int → Int} (h : lOK σ) (o : Int) : 0 ≤ pwr σ o ∧ pwr σ o ≤ 48000 := by
  have h8 := h.2.1
  have h1 := psum_rng h o (σ 8).toNat (by omega)
  unfold pwr
  omega
theorem psum_y {σ : Int → Int} {o : Int} {n : Nat} (h1 : σ (102 + 3 * (n : Int) + 2) = 1) (h2 : climb σ o 7 (σ (102 + 3 * (n : Int))) = o) : psum σ o (n + 1) = psum σ o n + σ (102 + 3 * (n : Int) + 1) := by
  show psum σ o n + _ = _
  rw [if_pos ⟨h1, h2⟩]
theorem psum_n {σ : Int → Int} {o : Int} {n : Nat} (h : ¬ (σ (102 + 3 * (n : Int) + 2) = 1 ∧ climb σ o 7 (σ (102 + 3 * (n : Int))) = o)) : psum σ o (n + 1) = psum σ o n + 0 := by
  show psum σ o n + _ = _
  rw [if_neg h]
section XB2
variable {p : Program} {l : Launch} {e : Env} {R : Room} {s : State} {m : MethodId} {args : Array Value} {below : List Frame} {meth : Method} {c : Code} {H : Heap} {locs : List Loc} {cells slots : Nat} {Q : State → Prop} {cc : ByteArray} {pc : Nat} {ls : Array Slot} {rest : List Value}
theorem x_ifb_eq (hx : p.tables.exec = Jvm.exec) (hb : c.code = cc) {P : Prop} [Decidable P] {off : Int} {tgt : Nat} (d : decode cc pc = .ok (.ifCond .eq off, 3)) (ht : (pc : Int) + off = (tgt : Int)) (kt : ¬ P → W p l e R s m args below meth c H locs cells slots Q (F0 m tgt ls rest)) (kf : P → W p l e R s m args below meth c H locs cells slots Q (F0 m (pc + 3) ls rest)) : W p l e R s m args below meth c H locs cells slots Q (F0 m pc ls (.int (zI (if P then 1 else 0)) :: rest)) := by
  by_cases h : P
  · rw [if_pos h]
    exact x_if_eq hx hb d ht (by decide) (fun q => absurd q (by decide)) (fun _ => kf h)
  · rw [if_neg h]
    exact x_if_eq hx hb d ht (by decide) (fun _ => kt h) (fun q => absurd rfl q)
theorem x_ifb_ne (hx : p.tables.exec = Jvm.exec) (hb : c.code = cc) {P : Prop} [Decidable P] {off : Int} {tgt : Nat} (d : decode cc pc = .ok (.ifCond .ne off, 3)) (ht : (pc : Int) + off = (tgt : Int)) (kt : P → W p l e R s m args below meth c H locs cells slots Q (F0 m tgt ls rest)) (kf : ¬ P → W p l e R s m args below meth c H locs cells slots Q (F0 m (pc + 3) ls rest)) : W p l e R s m args below meth c H locs cells slots Q (F0 m pc ls (.int (zI (if P then 1 else 0)) :: rest)) := by
  by_cases h : P
  · rw [if_pos h]
    exact x_if_ne hx hb d ht (by decide) (fun _ => kt h) (fun q => absurd q (by decide))
  · rw [if_neg h]
    exact x_if_ne hx hb d ht (by decide) (fun q => absurd rfl q) (fun _ => kf h)
end XB2
theorem sOK_up {σ : Int → Int} {q i v : Int} (h : sOK σ q) (hi : i ≠ q + 0 ∧ i ≠ q + 1 ∧ i ≠ q + 2 ∧ i ≠ q + 3 ∧ i ≠ q + 6) : sOK (up σ i v) q := by
  unfold sOK
  rw [up_n (k := q + 0) (by omega), up_n (k := q + 1) (by omega), up_n (k := q + 2) (by omega), up_n (k := q + 3) (by omega), up_n (k := q + 6) (by omega)]
  exact h
theorem dOK_up {σ : Int → Int} {q k i v : Int} (h : dOK σ q k) (hi : i ≠ q + 11 + 13 * k + 1 ∧ i ≠ q + 11 + 13 * k + 2 ∧ i ≠ q + 11 + 13 * k + 9 ∧ i ≠ q + 11 + 13 * k + 7) : dOK (up σ i v) q k := by
  unfold dOK
  rw [up_n (k := q + 11 + 13 * k + 1) (by omega), up_n (k := q + 11 + 13 * k + 2) (by omega), up_n (k := q + 11 + 13 * k + 9) (by omega), up_n (k := q + 11 + 13 * k + 7) (by omega)]
  exact h
theorem goesS_rng {σ : Int → Int} {q k pw : Int} (hs : sOK σ q) (hd : dOK σ q k) (hp : 0 ≤ pw ∧ pw ≤ 48000) : 0 ≤ goesS σ q k pw ∧ goesS σ q k pw < 100000 := by
  obtain ⟨⟨s1, s2⟩, ⟨s3, s4⟩, s5, ⟨s6, s7⟩, s8, s9⟩ := hs
  obtain ⟨⟨d1, d2⟩, ⟨d3, d4⟩, ⟨d5, d6⟩, d7⟩ := hd
  have hm : 0 ≤ pw * σ (q + 11 + 13 * k + 2) ∧ pw * σ (q + 11 + 13 * k + 2) ≤ 48000 * 160 := ⟨Int.mul_nonneg hp.1 (by omega), Int.mul_le_mul hp.2 d4 (by omega) (by omega)⟩
  unfold goesS
  split
  · split <;> omega
  · split
    · omega
    · split
      · omega
      · split
        · omega
        · split <;> omega
theorem pOneC_n {σ : Int → Int} {q k i : Int} (h5 : i ≠ q + 11 + 13 * k + 5) (h1 : i ≠ q + 11 + 13 * k + 1) (h3 : i ≠ q + 11 + 13 * k + 3) (h4 : i ≠ q + 11 + 13 * k + 4) : pOneC σ q k i = σ i := by
  have hI : i ≠ pOneI σ q k := by unfold pOneI; split <;> omega
  exact (up_n hI).trans ((up_n h1).trans (up_n h5))
theorem pOneD_9 {σ : Int → Int} {q k : Int} (hq : q = 0 ∨ q = 138) : pOneD σ q k (q + 11 + 13 * k + 9) = σ (q + 11 + 13 * k + 9) + 1 := by
  unfold pOneD
  rw [up_s, pOneC_n (by omega) (by omega) (by omega) (by omega)]
theorem pOneD_2 {σ : Int → Int} {q k : Int} (hq : q = 0 ∨ q = 138) : pOneD σ q k (q + 11 + 13 * k + 2) = σ (q + 11 + 13 * k + 2) := by
  unfold pOneD
  rw [up_n (by omega), pOneC_n (by omega) (by omega) (by omega) (by omega)]
theorem pOneD_n {σ : Int → Int} {q k i : Int} (hq : q = 0 ∨ q = 138) (h0 : i < q + 11 ) (hk : 0 ≤ k) : pOneD σ q k i = σ i := by
  unfold pOneD
  rw [up_n (by omega), pOneC_n (by omega) (by omega) (by omega) (by omega)]
