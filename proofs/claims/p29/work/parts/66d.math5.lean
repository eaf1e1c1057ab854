/-! what isWritten() reads: numbers sign by sign -/
theorem dgs_lt (f : Nat) : ∀ v : Int, 0 ≤ v → v < 10 ^ (f + 1) → v < 10 ^ (dgs f v) := by
  induction f with
  | zero => intro v _ h; exact h
  | succ f ih =>
    intro v h0 h
    by_cases q : v < 10
    · rw [dgs_1 (f + 1) v q]
      exact q
    · rw [dgs_s (by omega), ten_s]
      rw [ten_s (f + 1)] at h
      have h1 := ten_pos (f + 1)
      have h2 := ih (v / 10) (by omega) (by generalize (10 : Int) ^ (f + 1) = t at h h1 ⊢; omega)
      generalize (10 : Int) ^ (dgs f (v / 10)) = t at h2 ⊢
      omega
theorem dgs_m (f : Nat) : ∀ (v : Int) (m : Nat), 1 ≤ m → v < 10 ^ m → dgs f v ≤ m := by
  induction f with
  | zero => intro v m h _; exact h
  | succ f ih =>
    intro v m h1 h
    by_cases q : v < 10
    · rw [dgs_1 (f + 1) v q]
      exact h1
    · rw [dgs_s (by omega)]
      cases m with
      | zero => omega
      | succ m =>
        cases m with
        | zero => exact absurd h q
        | succ m =>
          rw [ten_s] at h
          have := ih (v / 10) (m + 1) (by omega) (by generalize (10 : Int) ^ (m + 1) = t at h ⊢; omega)
          omega
theorem ndg_ok {v : Int} (h : 0 ≤ v ∧ v < 100000000) : (1 ≤ ndg v ∧ ndg v ≤ 8) ∧ v / 10 ^ ndg v = 0 := by
  have e8 : (10 : Int) ^ 8 = 100000000 := by decide
  have e10 : (10 : Int) ^ (9 + 1) = 10000000000 := by decide
  have h1 := dgs_le 9 v
  have h2 := dgs_m 9 v 8 (by decide) (by rw [e8]; exact h.2)
  have h3 := dgs_lt 9 v h.1 (by rw [e10]; omega)
  exact ⟨⟨h1.1, h2⟩, Int.ediv_eq_zero_of_lt h.1 h3⟩
theorem numW_in {pd : Int → Int} {ln v i : Int} (h : ln ≤ i ∧ i < ln + ndg v) : numW pd ln v i = 48 + v / 10 ^ (ndg v - 1 - (i - ln).toNat) % 10 := if_pos h
theorem numW_out {pd : Int → Int} {ln v i : Int} (h : ¬ (ln ≤ i ∧ i < ln + ndg v)) : numW pd ln v i = pd i := if_neg h
theorem sgA_in {pd : Int → Int} {ln i : Int} (h : 0 ≤ i ∧ i < ln) : sgA pd ln i = pd i := if_pos h
theorem sgA_out {pd : Int → Int} {ln i : Int} (h : ¬ (0 ≤ i ∧ i < ln)) : sgA pd ln i = -1 := if_neg h
def PT (pd : Int → Int) (ln P V : Int) (n : Nat) : Prop := (1 ≤ n ∧ n ≤ 8) ∧ V / 10 ^ n = 0 ∧ ∀ j : Nat, j < n → sgA pd ln (P + j) = 48 + V / 10 ^ (n - 1 - j) % 10
theorem PT_at {pd : Int → Int} {ln P V T i : Int} {n g : Nat} (h : PT pd ln P V n) (hT : sgA pd ln (P + n) = T) (hi : i = P + g) (hg : g ≤ n) : (g < n ∧ sgA pd ln i = 48 + V / 10 ^ (n - 1 - g) % 10) ∨ (g = n ∧ sgA pd ln i = T) := by
  subst hi
  by_cases q : g < n
  · exact Or.inl ⟨q, h.2.2 g q⟩
  · have e : g = n := by omega
    subst e
    exact Or.inr ⟨rfl, hT⟩
theorem PT_step {V : Int} {n g : Nat} (h : g < n) : 10 * (V / 10 ^ (n - g)) + (48 + V / 10 ^ (n - 1 - g) % 10) - 48 = V / 10 ^ (n - (g + 1)) := by
  rw [show n - g = (n - 1 - g) + 1 by omega, ten_div, show n - (g + 1) = n - 1 - g by omega]
  omega
section WRT
variable {pd : Int → Int} {d n s b : Int}
theorem wr_lo {i : Int} (h : i < wl6 d n s) : wrP pd d n s b i = wp6 pd d n s i := by
  unfold wrP
  split
  · exact up_n (by omega)
  · rfl
theorem wr_pt (hd : 0 ≤ d ∧ d < 100000000) (hn : 0 ≤ n ∧ n < 100000000) (hs : 0 ≤ s ∧ s < 100000000) :
    sgA (wrP pd d n s b) (wrL d n s b) 0 = 100 ∧ PT (wrP pd d n s b) (wrL d n s b) 1 d (ndg d) ∧ sgA (wrP pd d n s b) (wrL d n s b) (1 + (ndg d : Int)) = 110 ∧ PT (wrP pd d n s b) (wrL d n s b) (1 + (ndg d : Int) + 1) n (ndg n) ∧ sgA (wrP pd d n s b) (wrL d n s b) (1 + (ndg d : Int) + 1 + (ndg n : Int)) = 35 ∧ PT (wrP pd d n s b) (wrL d n s b) (1 + (ndg d : Int) + 1 + (ndg n : Int) + 1) s (ndg s) ∧ ((b = 1 ∧ sgA (wrP pd d n s b) (wrL d n s b) (1 + (ndg d : Int) + 1 + (ndg n : Int) + 1 + (ndg s : Int)) = 33 ∧ wrL d n s b = 1 + (ndg d : Int) + 1 + (ndg n : Int) + 1 + (ndg s : Int) + 1) ∨ (¬ b = 1 ∧ sgA (wrP pd d n s b) (wrL d n s b) (1 + (ndg d : Int) + 1 + (ndg n : Int) + 1 + (ndg s : Int)) = -1 ∧ wrL d n s b = 1 + (ndg d : Int) + 1 + (ndg n : Int) + 1 + (ndg s : Int))) := by
  have l2 : wl2 d = 0 + 1 + (ndg d : Int) := rfl
  have l4 : wl4 d n = wl2 d + 1 + (ndg n : Int) := rfl
  have l6 : wl6 d n s = wl4 d n + 1 + (ndg s : Int) := rfl
  have od := ndg_ok hd
  have on := ndg_ok hn
  have os := ndg_ok hs
  have hlen : wl6 d n s ≤ wrL d n s b := by unfold wrL; split <;> omega
  have in6 (i : Int) (h0 : 0 ≤ i) (h : i < wl6 d n s) : sgA (wrP pd d n s b) (wrL d n s b) i = wp6 pd d n s i := by
    rw [sgA_in (by omega), wr_lo h]
  have z6 (i : Int) (h : i < wl4 d n) : wp6 pd d n s i = wp4 pd d n i := by
    unfold wp6
    rw [numW_out (by omega), up_n (by omega)]
  have z4 (i : Int) (h : i < wl2 d) : wp4 pd d n i = wp2 pd d i := by
    unfold wp4
    rw [numW_out (by omega), up_n (by omega)]
  refine ⟨?_, ⟨od.1, od.2, fun j hj => ?_⟩, ?_, ⟨on.1, on.2, fun j hj => ?_⟩, ?_, ⟨os.1, os.2, fun j hj => ?_⟩, ?_⟩
  · rw [in6 _ (by omega) (by omega), z6 _ (by omega), z4 _ (by omega)]
    unfold wp2
    rw [numW_out (by omega), up_s]
  · rw [in6 _ (by omega) (by omega), z6 _ (by omega), z4 _ (by omega)]
    unfold wp2
    rw [numW_in (by omega), show ((1 : Int) + (j : Int) - (0 + 1)).toNat = j by omega]
  · rw [in6 _ (by omega) (by omega), z6 _ (by omega)]
    unfold wp4
    rw [numW_out (by omega), up_e (by omega)]
  · rw [in6 _ (by omega) (by omega), z6 _ (by omega)]
    unfold wp4
    rw [numW_in (by omega), show (1 + (ndg d : Int) + 1 + (j : Int) - (wl2 d + 1)).toNat = j by omega]
  · rw [in6 _ (by omega) (by omega)]
    unfold wp6
    rw [numW_out (by omega), up_e (by omega)]
  · rw [in6 _ (by omega) (by omega)]
    unfold wp6
    rw [numW_in (by omega), show (1 + (ndg d : Int) + 1 + (ndg n : Int) + 1 + (j : Int) - (wl4 d n + 1)).toNat = j by omega]
  · by_cases q : b = 1
    · left
      have e : wrL d n s b = wl6 d n s + 1 := if_pos q
      refine ⟨q, ?_, by omega⟩
      rw [sgA_in (by omega)]
      unfold wrP
      rw [if_pos q, up_e (by omega)]
    · right
      have e : wrL d n s b = wl6 d n s := if_neg q
      exact ⟨q, sgA_out (by omega), by omega⟩
end WRT
/-- what isWritten() finds on the pad -/
theorem wr_all {N : Int} {τ pd : Int → Int} {k : Int} (h : GD N τ) (hk : 0 ≤ k ∧ k < τ 7) : (6 ≤ wrA τ k ∧ wrA τ k ≤ 34) ∧ (∀ i : Int, 0 ≤ i → i < wrA τ k → 0 ≤ wrD τ pd k i ∧ wrD τ pd k i < 65536) ∧ sgA (wrD τ pd k) (wrA τ k) 0 = 100 ∧ sgA (wrD τ pd k) (wrA τ k) (wrA τ k) = -1 ∧ sgA (wrD τ pd k) (wrA τ k) (-1) = -1 ∧ fO (wrD τ pd k) (wrA τ k) (wrA τ k).toNat 0 1 = 0 ∧ ∃ a b c : Nat, PT (wrD τ pd k) (wrA τ k) 1 (τ (11 + 13 * k + 3)) a ∧ sgA (wrD τ pd k) (wrA τ k) (1 + (a : Int)) = 110 ∧ PT (wrD τ pd k) (wrA τ k) (1 + (a : Int) + 1) (τ (11 + 13 * k + 4)) b ∧ sgA (wrD τ pd k) (wrA τ k) (1 + (a : Int) + 1 + (b : Int)) = 35 ∧ PT (wrD τ pd k) (wrA τ k) (1 + (a : Int) + 1 + (b : Int) + 1) (τ (11 + 13 * k + 6)) c ∧ ((τ (11 + 13 * k + 7) = 1 ∧ sgA (wrD τ pd k) (wrA τ k) (1 + (a : Int) + 1 + (b : Int) + 1 + (c : Int)) = 33 ∧ wrA τ k = 1 + (a : Int) + 1 + (b : Int) + 1 + (c : Int) + 1) ∨ (¬ τ (11 + 13 * k + 7) = 1 ∧ sgA (wrD τ pd k) (wrA τ k) (1 + (a : Int) + 1 + (b : Int) + 1 + (c : Int)) = -1 ∧ wrA τ k = 1 + (a : Int) + 1 + (b : Int) + 1 + (c : Int))) := by
  have ht := trn_rng h hk
  have hq := gd_k h hk
  have h10 := gd_10 h
  have hN := h.1
  have hp := wr_pt (pd := pd) (d := τ (11 + 13 * k + 3)) (n := τ (11 + 13 * k + 4)) (s := τ (11 + 13 * k + 6)) (b := τ (11 + 13 * k + 7)) (by omega) (by omega) (by omega)
  have hl := wrL_rng (τ (11 + 13 * k + 3)) (τ (11 + 13 * k + 4)) (τ (11 + 13 * k + 6)) (τ (11 + 13 * k + 7))
  have hc := CH_wr pd (τ (11 + 13 * k + 3)) (τ (11 + 13 * k + 4)) (τ (11 + 13 * k + 6)) (τ (11 + 13 * k + 7))
  have hlen : 6 ≤ wrA τ k ∧ wrA τ k ≤ 34 := by
    have a1 := hp.2.1.1
    have a2 := hp.2.2.2.1.1
    have a3 := hp.2.2.2.2.2.1.1
    have a4 := hp.2.2.2.2.2.2
    unfold wrA
    omega
  refine ⟨hlen, fun i a b => ?_, hp.1, sgA_out (by omega), sgA_out (by omega), ?_, ndg (τ (11 + 13 * k + 3)), ndg (τ (11 + 13 * k + 4)), ndg (τ (11 + 13 * k + 6)), hp.2⟩
  · have q : 33 ≤ wrD τ pd k i ∧ wrD τ pd k i ≤ 126 := hc i a b
    omega
  · obtain ⟨n, hn⟩ : ∃ n : Nat, (wrA τ k).toNat = n + 1 := ⟨(wrA τ k).toNat - 1, by omega⟩
    rw [hn]
    refine fO_hit ?_
    have q : sgA (wrD τ pd k) (wrA τ k) 0 = 100 := hp.1
    rw [q]
    rfl
