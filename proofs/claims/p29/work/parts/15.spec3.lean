theorem wnM_0 {σ : Int → Int} {k : Int} (h : wnM σ k = 0) (h7 : 0 ≤ σ 7 ∧ σ 7 ≤ 7) : σ 7 < 7 ∧ (σ 7 = 0 ∨ (0 ≤ k ∧ k < σ 7)) := by
  unfold wnM at h
  split at h
  · omega
  · split at h <;> omega
theorem wnM_rng (σ : Int → Int) (k : Int) : -4 ≤ wnM σ k ∧ wnM σ k ≤ 0 := by unfold wnM; repeat' split <;> omega
theorem wnL_rng (σ : Int → Int) (k w : Int) : -4 ≤ wnL σ k w ∧ wnL σ k w ≤ 0 := by unfold wnL; repeat' split <;> omega
theorem wnT_rng (σ : Int → Int) (k : Int) : -5 ≤ wnT σ k ∧ wnT σ k ≤ 0 := by unfold wnT; repeat' split <;> omega
theorem wnP_rng (σ : Int → Int) (n : Int) : -5 ≤ wnP σ n ∧ wnP σ n ≤ 0 := by unfold wnP; repeat' split <;> omega
theorem wnL_0 {σ : Int → Int} {k w : Int} (h : wnL σ k w = 0) (h8 : 0 ≤ σ 8 ∧ σ 8 ≤ 12) : (0 ≤ k ∧ k < σ 7) ∧ (1 ≤ w ∧ w ≤ 4000) ∧ σ 8 < 12 := by
  unfold wnL at h
  split at h
  · omega
  · split at h
    · omega
    · split at h <;> omega
theorem wnT_0 {σ : Int → Int} {k : Int} (h : wnT σ k = 0) : (0 ≤ k ∧ k < σ 7) ∧ ¬ σ (11 + 13 * k + 7) = 1 := by
  unfold wnT at h
  split at h
  · omega
  · split at h <;> omega
theorem wnP_0 {σ : Int → Int} {n : Int} (h : wnP σ n = 0) : (1 ≤ n ∧ n ≤ 1440) ∧ σ 6 + n ≤ 99999 := by
  unfold wnP at h
  split at h
  · omega
  · split at h <;> omega
theorem dgs_1 (f : Nat) : ∀ v : Int, v < 10 → dgs f v = 1 := by
  cases f with
  | zero => intro v _; rfl
  | succ f => intro v h; exact if_pos h
theorem dgs_s {f : Nat} {v : Int} (h : 10 ≤ v) : dgs (f + 1) v = dgs f (v / 10) + 1 := if_neg (by omega)
theorem dgs_le (f : Nat) : ∀ v : Int, 1 ≤ dgs f v ∧ dgs f v ≤ f + 1 := by
  induction f with
  | zero => intro v; exact ⟨Nat.le_refl _, Nat.le_refl _⟩
  | succ f ih =>
    intro v
    unfold dgs
    have := ih (v / 10)
    split <;> omega
theorem ndg_le (v : Int) : 1 ≤ ndg v ∧ ndg v ≤ 10 := dgs_le 9 v
theorem ten_pos (m : Nat) : (0 : Int) < 10 ^ m := Int.pow_pos (by decide)
theorem ten_s (m : Nat) : (10 : Int) ^ (m + 1) = 10 ^ m * 10 := Int.pow_succ _ _
theorem ten_div (v : Int) (m : Nat) : v / 10 ^ (m + 1) = v / 10 ^ m / 10 := by
  have h := ten_pos m
  rw [ten_s]
  generalize (10 : Int) ^ m = t at h ⊢
  exact (Int.ediv_ediv_of_nonneg (Int.le_of_lt h)).symm
theorem ten_9 {m : Nat} (h : m ≤ 9) : (10 : Int) ^ m ≤ 1000000000 := by
  have h1 : (10 : Nat) ^ m ≤ 10 ^ 9 := Nat.pow_le_pow_right (by decide) h
  have h2 : ((10 ^ m : Nat) : Int) = (10 : Int) ^ m := by simp
  have h3 : (10 : Nat) ^ 9 = 1000000000 := by simp
  omega
def numJ (pd : Int → Int) (ln v j : Int) : Int → Int := fun i => if ln ≤ i ∧ i < ln + j then 48 + v / 10 ^ (ndg v - 1 - (i - ln).toNat) % 10 else pd i
theorem numJ_0 (pd : Int → Int) (ln v : Int) : numJ pd ln v 0 = pd := by
  funext i
  exact if_neg (by omega)
theorem numJ_step {pd : Int → Int} {ln v j i w : Int} (hi : i = ln + j) (hj : 0 ≤ j) (hw : w = 48 + v / 10 ^ (ndg v - 1 - j.toNat) % 10) : up (numJ pd ln v j) i w = numJ pd ln v (j + 1) := by
  subst hi; subst hw
  funext x
  unfold up numJ
  by_cases e : x = ln + j
  · subst e
    rw [if_pos rfl, if_pos (by omega), show ln + j - ln = j by omega]
  · rw [if_neg e]
    by_cases q : ln ≤ x ∧ x < ln + j
    · rw [if_pos q, if_pos (by omega)]
    · rw [if_neg q, if_neg (by omega)]
theorem numJ_all (pd : Int → Int) (ln v : Int) : numJ pd ln v (ndg v) = numW pd ln v := rfl
/-! what write() writes -/
def wl2 (d : Int) : Int := 0 + 1 + ndg d
def wl4 (d n : Int) : Int := wl2 d + 1 + ndg n
def wl6 (d n s : Int) : Int := wl4 d n + 1 + ndg s
def wp2 (pd : Int → Int) (d : Int) : Int → Int := numW (up pd 0 100) (0 + 1) d
def wp4 (pd : Int → Int) (d n : Int) : Int → Int := numW (up (wp2 pd d) (wl2 d) 110) (wl2 d + 1) n
def wp6 (pd : Int → Int) (d n s : Int) : Int → Int := numW (up (wp4 pd d n) (wl4 d n) 35) (wl4 d n + 1) s
def wrL (d n s b : Int) : Int := if b = 1 then wl6 d n s + 1 else wl6 d n s
def wrP (pd : Int → Int) (d n s b : Int) : Int → Int := if b = 1 then up (wp6 pd d n s) (wl6 d n s) 33 else wp6 pd d n s
