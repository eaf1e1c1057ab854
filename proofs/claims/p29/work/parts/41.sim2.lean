/-! sets of bits -/
theorem bt_iff {x : Int} (h : 0 ≤ x) (m : Nat) : x / 2 ^ m % 2 = 1 ↔ x.toNat.testBit m = true := by
  obtain ⟨n, rfl⟩ : ∃ n : Nat, x = n := ⟨x.toNat, by omega⟩
  rw [Int.toNat_natCast, Nat.testBit_eq_decide_div_mod_eq]
  have : (n : Int) / 2 ^ m % 2 = ((n / 2 ^ m % 2 : Nat) : Int) := by simp
  rw [this]
  simp
  omega
theorem orI_bit (a b : Int) (m : Nat) : (orI a b).toNat.testBit m = (a.toNat.testBit m || b.toNat.testBit m) := by
  unfold orI
  rw [Int.toNat_natCast, Nat.testBit_or]
theorem shI_bit {i : Int} (h : 0 ≤ i) (m : Nat) : (shI 1 i).toNat.testBit m = decide (i = (m : Int)) := by
  obtain ⟨n, rfl⟩ : ∃ n : Nat, i = n := ⟨i.toNat, by omega⟩
  have : (shI 1 n).toNat = 2 ^ n := by
    unfold shI
    rw [Int.one_mul, Int.toNat_natCast]
    have : ((2 : Int) ^ n) = ((2 ^ n : Nat) : Int) := by simp
    rw [this, Int.toNat_natCast]
  rw [this, Nat.testBit_two_pow]
  by_cases e : n = m
  · subst e; simp
  · rw [decide_eq_false e, decide_eq_false (by omega)]
theorem int_bits {a b : Int} (ha : 0 ≤ a) (hb : 0 ≤ b) (h : ∀ m : Nat, a.toNat.testBit m = b.toNat.testBit m) : a = b := by
  have := Nat.eq_of_testBit_eq h
  omega
/-! who is fed through whom -/
theorem climb_fuel {σ : Int → Int} (hL : lOK σ) {o : Int} (ho : 0 ≤ o) : ∀ (f : Nat) (k : Int), 0 ≤ k → k < σ 7 → k ≤ f → climb σ o (f + 1) k = climb σ o f k := by
  intro f
  induction f with
  | zero =>
    intro k h0 h1 h2
    exact climb_stop (by omega) 1
  | succ f ih =>
    intro k h0 h1 h2
    by_cases e : o < k
    · rw [climb_go e, climb_go e]
      have := hL.2.2.1 k (by omega) h1
      exact ih _ this.1 (by omega) (by omega)
    · rw [climb_stop (by omega), climb_stop (by omega)]
theorem fdC_bit {τ : Int → Int} (hL : lOK τ) {o : Int} (ho : 0 ≤ o) : ∀ j : Nat, o + j < τ 7 → ∀ m : Nat, (fdC τ o j).toNat.testBit m = decide ((m : Int) ≤ o + j ∧ climb τ o 7 m = o) := by
  have h7 := hL.1
  intro j
  induction j with
  | zero =>
    intro hj m
    show (shI 1 o).toNat.testBit m = _
    rw [shI_bit ho]
    by_cases e : o = (m : Int)
    · rw [decide_eq_true e, decide_eq_true ⟨by omega, by rw [climb_stop (by omega)]; omega⟩]
    · rw [decide_eq_false e, decide_eq_false]
      intro ⟨a, b⟩
      rw [climb_stop (by omega)] at b
      omega
  | succ j ih =>
    intro hj m
    have ih := ih (by omega)
    have ht := hL.2.2.1 (o + 1 + j) (by omega) (by omega)
    have hr := fdC_rng (τ := τ) (n := o) ho j (by omega)
    have hi : climb τ o 7 (o + 1 + j) = climb τ o 7 (τ (11 + 13 * (o + 1 + j))) := by
      rw [climb_go (by omega), ← climb_fuel hL ho 6 _ ht.1 (by omega) (by omega)]
    have hb : (fdC τ o j / 2 ^ (τ (11 + 13 * (o + 1 + (j : Int)) + 0)).toNat % 2 = 1) ↔ climb τ o 7 (o + 1 + j) = o := by
      rw [bt_iff hr.1, ih, Int.add_zero, hi, show ((τ (11 + 13 * (o + 1 + (j : Int)))).toNat : Int) = τ (11 + 13 * (o + 1 + (j : Int))) by omega]
      constructor
      · intro q; exact (of_decide_eq_true q).2
      · intro q; exact decide_eq_true ⟨by omega, q⟩
    show (if fdC τ o j / 2 ^ (τ (11 + 13 * (o + 1 + (j : Int)) + 0)).toNat % 2 = 1 then orI (fdC τ o j) (shI 1 (o + 1 + (j : Int))) else fdC τ o j).toNat.testBit m = _
    by_cases q : climb τ o 7 (o + 1 + j) = o
    · rw [if_pos (hb.mpr q), orI_bit, ih, shI_bit (by omega)]
      by_cases e : (m : Int) = o + 1 + j
      · rw [decide_eq_true e.symm, Bool.or_true, decide_eq_true]
        exact ⟨by omega, by rw [e]; exact q⟩
      · rw [decide_eq_false (show ¬ (o + 1 + (j : Int) = m) by omega), Bool.or_false]
        apply decide_eq_decide.mpr
        constructor
        · intro ⟨a, b⟩; exact ⟨by omega, b⟩
        · intro ⟨a, b⟩; exact ⟨by omega, b⟩
    · rw [if_neg (fun w => q (hb.mp w)), ih]
      apply decide_eq_decide.mpr
      constructor
      · intro ⟨a, b⟩; exact ⟨by omega, b⟩
      · intro ⟨a, b⟩
        refine ⟨?_, b⟩
        by_cases e : (m : Int) = o + 1 + j
        · rw [e] at b; exact absurd b q
        · omega
theorem fedC_bit {τ : Int → Int} (hL : lOK τ) {o : Int} (ho : 0 ≤ o ∧ o < τ 7) (m : Nat) : (fedC τ o).toNat.testBit m = decide ((m : Int) < τ 7 ∧ climb τ o 7 m = o) := by
  unfold fedC
  rw [fdC_bit hL ho.1 _ (by omega)]
  apply decide_eq_decide.mpr
  constructor
  · intro ⟨a, b⟩; exact ⟨by omega, b⟩
  · intro ⟨a, b⟩; exact ⟨by omega, b⟩
theorem fedC_rng {τ : Int → Int} (hL : lOK τ) {o : Int} (ho : 0 ≤ o ∧ o < τ 7) : 0 ≤ fedC τ o ∧ fedC τ o < 2147483648 := by
  have h7 := hL.1
  exact fdC_rng ho.1 _ (by omega)
theorem fedS_bit {σ : Int → Int} {o : Int} : ∀ (n : Nat), n ≤ 7 → ∀ m : Nat, (fedS σ o n).toNat.testBit m = decide (m < n ∧ climb σ o 7 m = o) := by
  intro n
  induction n with
  | zero =>
    intro _ m
    show (0 : Int).toNat.testBit m = _
    rw [decide_eq_false (by omega)]
    exact Nat.zero_testBit m
  | succ n ih =>
    intro hn m
    show (orI (fedS σ o n) (if climb σ o 7 n = o then shI 1 n else 0)).toNat.testBit m = _
    rw [orI_bit, ih (by omega)]
    by_cases q : climb σ o 7 n = o
    · rw [if_pos q, shI_bit (by omega)]
      by_cases e : m = n
      · subst e
        rw [decide_eq_true rfl, Bool.or_true, decide_eq_true ⟨by omega, q⟩]
      · rw [decide_eq_false (show ¬ (n : Int) = m by omega), Bool.or_false]
        apply decide_eq_decide.mpr
        constructor
        · intro ⟨a, b⟩; exact ⟨by omega, b⟩
        · intro ⟨a, b⟩; exact ⟨by omega, b⟩
    · rw [if_neg q]
      show (_ || Nat.testBit 0 m) = _
      rw [Nat.zero_testBit, Bool.or_false]
      apply decide_eq_decide.mpr
      constructor
      · intro ⟨a, b⟩; exact ⟨by omega, b⟩
      · intro ⟨a, b⟩
        refine ⟨?_, b⟩
        by_cases e : m = n
        · subst e; exact absurd b q
        · omega
theorem fed_eq {σ : Int → Int} (hL : lOK σ) {o : Int} (ho : 0 ≤ o ∧ o < σ 7) : fedC σ o = fedS σ o (σ 7).toNat := by
  have h7 := hL.1
  refine int_bits (fedC_rng hL ho).1 (fedS_rng σ o _ (by omega)).1 fun m => ?_
  rw [fedC_bit hL ho, fedS_bit _ (by omega)]
  apply decide_eq_decide.mpr
  constructor
  · intro ⟨a, b⟩; exact ⟨by omega, b⟩
  · intro ⟨a, b⟩; exact ⟨by omega, b⟩
theorem cpow_eq {σ : Int → Int} (hL : lOK σ) {o : Int} (ho : 0 ≤ o ∧ o < σ 7) : cpow σ o = pwr σ o := by
  have h8 := hL.2.1
  have key : ∀ n : Nat, (n : Int) ≤ σ 8 → cpw σ o n = psum σ o n := by
    intro n
    induction n with
    | zero => intro _; rfl
    | succ n ih =>
      intro hn
      obtain ⟨l1, l2, l3⟩ := hL.2.2.2 n (by omega) (by omega)
      have hb : (fedC σ o / 2 ^ (σ (102 + 3 * (n : Int) + 0)).toNat % 2 = 1) ↔ climb σ o 7 (σ (102 + 3 * (n : Int))) = o := by
        rw [bt_iff (fedC_rng hL ho).1, fedC_bit hL ho, Int.add_zero, show ((σ (102 + 3 * (n : Int))).toNat : Int) = σ (102 + 3 * (n : Int)) by omega]
        constructor
        · intro q; exact (of_decide_eq_true q).2
        · intro q; exact decide_eq_true ⟨by omega, q⟩
      show cpw σ o n + _ = psum σ o n + _
      rw [ih (by omega)]
      congr 1
      by_cases q : σ (102 + 3 * (n : Int) + 2) = 1 ∧ climb σ o 7 (σ (102 + 3 * (n : Int))) = o
      · rw [if_pos q, if_pos ⟨by omega, hb.mpr q.2⟩]
      · rw [if_neg q, if_neg]
        intro ⟨a, b⟩
        exact q ⟨by omega, hb.mp b⟩
  exact key _ (by omega)
