/-! what areMeters() needs: the law's own sums beside the class's -/
theorem orI_0 {x : Int} (h : 0 ≤ x) : orI x 0 = x := by
  show (((x.toNat ||| (0 : Int).toNat : Nat)) : Int) = x
  rw [show (0 : Int).toNat = 0 from rfl, Nat.or_zero]
  omega
theorem shI_0 (k : Int) : shI 0 k = 0 := Int.zero_mul _
theorem shI_nn {a k : Int} (ha : 0 ≤ a) : 0 ≤ shI a k := Int.mul_nonneg ha (Int.le_of_lt (two_pos _))
theorem orI_nn (a b : Int) : 0 ≤ orI a b := Int.natCast_nonneg _
theorem onC_nn (τ : Int → Int) (n : Nat) : 0 ≤ onC τ n := by
  cases n with
  | zero => exact Int.le_refl _
  | succ n => exact orI_nn _ _
theorem brC_nn (τ : Int → Int) (n : Nat) : 0 ≤ brC τ n := by
  cases n with
  | zero => exact Int.le_refl _
  | succ n => exact orI_nn _ _
theorem onC_s {τ : Int → Int} {n : Nat} {k x : Int} (hk : k = n) (hx : τ (102 + 3 * k + 2) = x) (h : x = 0 ∨ x = 1) : orI (onC τ n) (shI x k) = onC τ (n + 1) := by
  subst hk
  subst hx
  show _ = orI (onC τ n) (if τ (102 + 3 * (n : Int) + 2) = 0 then 0 else shI 1 n)
  rcases h with h | h
  · rw [if_pos h, h, shI_0]
  · rw [if_neg (by omega), h]
theorem brC_s {τ : Int → Int} {n : Nat} {k x : Int} (hk : k = n) (hx : τ (11 + 13 * k + 7) = x) (h : x = 0 ∨ x = 1) : orI (brC τ n) (shI x k) = brC τ (n + 1) := by
  subst hk
  subst hx
  show _ = orI (brC τ n) (if τ (11 + 13 * (n : Int) + 7) = 0 then 0 else shI 1 n)
  rcases h with h | h
  · rw [if_pos h, h, shI_0]
  · rw [if_neg (by omega), h]
theorem cpw_y {τ : Int → Int} {o k : Int} {n : Nat} (hk : k = n) (h1 : fedC τ o / 2 ^ (τ (102 + 3 * k + 0)).toNat % 2 = 1) (h2 : τ (102 + 3 * k + 2) = 1) : cpw τ o n + τ (102 + 3 * k + 1) = cpw τ o (n + 1) := by
  subst hk
  show _ = cpw τ o n + (if ¬ τ (102 + 3 * (n : Int) + 2) = 0 ∧ fedC τ o / 2 ^ (τ (102 + 3 * (n : Int) + 0)).toNat % 2 = 1 then τ (102 + 3 * (n : Int) + 1) else 0)
  rw [if_pos ⟨by omega, h1⟩]
theorem cpw_n {τ : Int → Int} {o k : Int} {n : Nat} (hk : k = n) (h : ¬ (fedC τ o / 2 ^ (τ (102 + 3 * k + 0)).toNat % 2 = 1 ∧ τ (102 + 3 * k + 2) = 1)) (h01 : τ (102 + 3 * k + 2) = 0 ∨ τ (102 + 3 * k + 2) = 1) : cpw τ o n + 0 = cpw τ o (n + 1) := by
  subst hk
  show _ = cpw τ o n + (if ¬ τ (102 + 3 * (n : Int) + 2) = 0 ∧ fedC τ o / 2 ^ (τ (102 + 3 * (n : Int) + 0)).toNat % 2 = 1 then τ (102 + 3 * (n : Int) + 1) else 0)
  rw [if_neg (fun q => h ⟨q.2, by rcases h01 with z | z; exact absurd z q.1; exact z⟩)]
theorem bit01 (x : Int) (m : Nat) : 0 ≤ x / 2 ^ m % 2 ∧ x / 2 ^ m % 2 < 2 := ⟨Int.emod_nonneg _ (by decide), Int.emod_lt_of_pos _ (by decide)⟩
theorem fd_y {τ : Int → Int} {o q : Int} {j : Nat} (hq : q = o + 1 + (j : Int)) (h : fdC τ o j / 2 ^ (τ (11 + 13 * q + 0)).toNat % 2 = 1) : orI (fdC τ o j) (shI 1 q) = fdC τ o (j + 1) := by
  subst hq
  exact (if_pos h).symm
theorem fd_n {τ : Int → Int} {o q : Int} {j : Nat} (h0 : 0 ≤ o) (hj : o + (j : Int) ≤ 30) (hq : q = o + 1 + (j : Int)) (h : ¬ fdC τ o j / 2 ^ (τ (11 + 13 * q + 0)).toNat % 2 = 1) : orI (fdC τ o j) 0 = fdC τ o (j + 1) := by
  subst hq
  rw [orI_0 (fdC_rng h0 j hj).1]
  exact (if_neg h).symm
theorem fd_lo {τ : Int → Int} (hL : lOK τ) {o q : Int} {j : Nat} (h0 : 0 ≤ o) (hj : o + (j : Int) < τ 7) (hq : q = o + 1 + (j : Int)) (ht : 0 ≤ τ (11 + 13 * q + 0)) (h : τ (11 + 13 * q + 0) < o) : orI (fdC τ o j) 0 = fdC τ o (j + 1) := by
  have h7 := hL.1
  refine fd_n h0 (by omega) hq (fun z => ?_)
  have b := (bt_iff (fdC_rng h0 j (by omega)).1 (τ (11 + 13 * q + 0)).toNat).mp z
  rw [fdC_bit hL h0 j hj] at b
  have b2 := of_decide_eq_true b
  rw [climb_stop (by omega)] at b2
  omega
theorem tb_y {τ : Int → Int} {k q : Int} {j : Nat} (hq : q = k + 1 + (j : Int)) (h : τ (11 + 13 * q + 0) = k) : tbC τ k j + (τ (11 + 13 * q + 3) + τ (11 + 13 * q + 4)) = tbC τ k (j + 1) := by
  subst hq
  show _ = tbC τ k j + (if τ (11 + 13 * (k + 1 + (j : Int)) + 0) = k then trn τ (k + 1 + (j : Int)) else 0)
  rw [if_pos h]
  rfl
theorem tb_n {τ : Int → Int} {k q : Int} {j : Nat} (hq : q = k + 1 + (j : Int)) (h : ¬ τ (11 + 13 * q + 0) = k) : tbC τ k j + 0 = tbC τ k (j + 1) := by
  subst hq
  show _ = tbC τ k j + (if τ (11 + 13 * (k + 1 + (j : Int)) + 0) = k then trn τ (k + 1 + (j : Int)) else 0)
  rw [if_neg h]
theorem wkA_e {τ : Int → Int} {k : Int} (h : τ (11 + 13 * k + 2) = 160) : wkA τ k = -6 := by
  unfold wkA
  rw [if_neg (by omega)]
theorem wkA_r {N : Int} {τ : Int → Int} {k : Int} (h : GD N τ) (hk : 0 ≤ k ∧ k < τ 7) : (τ (11 + 13 * k + 2) = 160 ∧ wkA τ k = -6) ∨ (τ (11 + 13 * k + 2) < 160 ∧ 1 ≤ wkA τ k ∧ wkA τ k ≤ 5000 ∧ wkA τ k = max 1 (τ 3 - τ (11 + 13 * k + 9))) := by
  have hm := gd_m h hk
  have hs := gd_s h
  by_cases q : τ (11 + 13 * k + 2) = 160
  · exact Or.inl ⟨q, wkA_e q⟩
  · right
    have e : wkA τ k = max 1 (τ 3 - τ (11 + 13 * k + 9)) := if_pos (by omega)
    rw [e]
    refine ⟨by omega, ?_, ?_, rfl⟩ <;> omega
theorem msA_e (τ : Int → Int) (k : Int) : msA τ k = τ (11 + 13 * k + 5) - 6000 * (τ (11 + 13 * k + 3) + τ (11 + 13 * k + 4)) - τ (11 + 13 * k + 1) + 10000000000 := rfl
theorem msA_rng {N : Int} {τ : Int → Int} {k : Int} (h : GD N τ) (hk : 0 ≤ k ∧ k < τ 7) : -100000000000000 ≤ msA τ k ∧ msA τ k < 100000000000000 := by
  have hm := gd_m h hk
  have q := gd_k h hk
  have q6 := gd_6 h
  rw [msA_e]
  omega
theorem trn_rng {N : Int} {τ : Int → Int} {k : Int} (h : GD N τ) (hk : 0 ≤ k ∧ k < τ 7) : (0 ≤ τ (11 + 13 * k + 3) ∧ τ (11 + 13 * k + 3) ≤ 1299987) ∧ (0 ≤ τ (11 + 13 * k + 4) ∧ τ (11 + 13 * k + 4) ≤ 1299987) := by
  have q := gd_k h hk
  have q6 := gd_6 h
  omega
theorem tb_rng {N : Int} {τ : Int → Int} {k : Int} (h : GD N τ) (h0 : 0 ≤ k) : ∀ j : Nat, k + (j : Int) < τ 7 → 0 ≤ tbC τ k j ∧ tbC τ k j ≤ 2599974 * j := by
  intro j
  induction j with
  | zero => intro _; exact ⟨Int.le_refl _, Int.le_refl _⟩
  | succ j ih =>
    intro hj
    have h1 := ih (by omega)
    have q := trn_rng h (k := k + 1 + (j : Int)) (by omega)
    show 0 ≤ tbC τ k j + (if τ (11 + 13 * (k + 1 + (j : Int)) + 0) = k then trn τ (k + 1 + (j : Int)) else 0) ∧ tbC τ k j + (if τ (11 + 13 * (k + 1 + (j : Int)) + 0) = k then trn τ (k + 1 + (j : Int)) else 0) ≤ _
    unfold trn
    split <;> omega
/-- the index of the greatest, as the law finds it -/
theorem mm_y {τ : Int → Int} {m : Int} {n : Nat} (hm : m = (n : Int) + 1) (h : msA τ (mmC τ n) < msA τ m) : m = mmC τ (n + 1) := by
  subst hm
  have h2 : msM (mrec τ (mmC τ n)) < msM (mrec τ ((n : Int) + 1)) := by
    unfold msA at h
    omega
  exact (if_pos h2).symm
theorem mm_n {τ : Int → Int} {m : Int} {n : Nat} (hm : m = (n : Int) + 1) (h : ¬ msA τ (mmC τ n) < msA τ m) : mmC τ n = mmC τ (n + 1) := by
  subst hm
  have h2 : ¬ msM (mrec τ (mmC τ n)) < msM (mrec τ ((n : Int) + 1)) := by
    unfold msA at h
    omega
  exact (if_neg h2).symm
