/-! the answers to questions -/
section QS
variable {N : Int} {σ τ : Int → Int} {k w : Int}
theorem LE_m (h : LE σ τ) (hk : 0 ≤ k ∧ k < σ 7) {j : Int} (hj : 1 ≤ j ∧ j < 13) : τ (11 + 13 * k + j) = σ (11 + 13 * k + j) := h.me (by omega) (by omega)
theorem LE_of (h : LE σ τ) (hF : fOK N σ) (hk : 0 ≤ k ∧ k < σ 7) : ofC τ k w = ofS σ k w := by
  have z : (0 : Int) + 11 = 11 := rfl
  have hd := dOK_0 (hF.1.2.2 k hk.1 hk.2)
  unfold ofC ofS
  by_cases w0 : w = 0
  · rw [if_pos w0, if_pos w0]
    by_cases k0 : k = 0
    · subst k0
      have e1 := h.2 (by omega)
      have e2 := hF.2.2.2.2.2.1 (by omega)
      have t1 : τ (11 + 13 * 0 + 0) = -6 := e1
      have t2 : σ (11 + 13 * 0 + 0) = -1 := e2
      rw [t1, t2]; rfl
    · have := hF.1.1.2.2.1 k (by omega) hk.2
      rw [h.me (i := 11 + 13 * k + 0) (by omega) (by omega), Int.add_zero, if_neg (by omega)]
  · rw [if_neg w0, if_neg w0]
    by_cases w1 : w = 1
    · rw [if_pos w1, if_pos w1]; exact LE_cpow h hF.1.1 hk
    · rw [if_neg w1, if_neg w1]
      by_cases w25 : 2 ≤ w ∧ w ≤ 5
      · rw [if_pos w25]
        rcases (show w = 2 ∨ w = 3 ∨ w = 4 ∨ w = 5 by omega) with q | q | q | q <;> subst q
        · exact LE_m h hk (by decide)
        · exact LE_m h hk (by decide)
        · exact LE_m h hk (by decide)
        · exact LE_m h hk (by decide)
      · rw [if_neg w25, if_neg (by omega), if_neg (by omega), if_neg (by omega), if_neg (by omega)]
        by_cases w6 : w = 6
        · rw [if_pos w6, if_pos w6, LE_m h hk (by decide), z]
        · rw [if_neg w6, if_neg w6]
          by_cases w79 : 7 ≤ w ∧ w ≤ 9
          · rw [if_pos w79]
            rcases (show w = 7 ∨ w = 8 ∨ w = 9 by omega) with q | q | q <;> subst q
            · exact LE_m h hk (by decide)
            · have e := LE_m h hk (j := 7) (by decide)
              show (if τ (11 + 13 * k + 7) = 0 then (0 : Int) else 1) = σ (11 + 13 * k + 7)
              rw [e]
              rcases hd.2.2.2 with u | u <;> rw [u] <;> rfl
            · exact LE_m h hk (by decide)
          · rw [if_neg w79, if_neg (by omega), if_neg (by omega), if_neg (by omega)]
            by_cases w10 : w = 10
            · rw [if_pos w10, if_pos w10, LE_m h hk (by decide), LE_m h hk (by decide), h.lo (i := 3) (by decide) (by decide)]
              unfold unW
              have h2 := hd.2.1
              by_cases q : σ (11 + 13 * k + 2) = 160
              · rw [if_pos q, if_neg (by omega)]
              · rw [if_neg q, if_pos (by omega)]
                split <;> omega
            · rw [if_neg w10, if_neg w10]
              by_cases w11 : w = 11
              · rw [if_pos w11, if_pos w11, LE_m h hk (by decide)]
              · rw [if_neg w11, if_neg w11]
theorem LE_ofLoad (h : LE σ τ) (hF : fOK N σ) (hk : 0 ≤ k ∧ k < σ 8) : olC τ k w = if 0 ≤ w ∧ w ≤ 2 then σ (102 + 3 * k + w) else -2 := by
  have hl := (hF.1.1.2.2.2 k hk.1 hk.2).2.2
  have e := fun (j : Int) (a : 0 ≤ j) (b : j < 3) => h.ld (i := 102 + 3 * k + j) (by omega) (by omega)
  unfold olC
  by_cases q : 0 ≤ w ∧ w ≤ 2
  · rw [if_pos q]
    rcases (show w = 0 ∨ w = 1 ∨ w = 2 by omega) with u | u | u <;> subst u
    · exact e 0 (by decide) (by decide)
    · exact e 1 (by decide) (by decide)
    · show (if τ (102 + 3 * k + 2) = 0 then (0 : Int) else 1) = σ (102 + 3 * k + 2)
      rw [e 2 (by decide) (by decide)]
      rcases hl with u | u <;> rw [u] <;> rfl
  · rw [if_neg q, if_neg (by omega), if_neg (by omega), if_neg (by omega)]
theorem LE_trn (h : LE σ τ) (hk : 0 ≤ k ∧ k < σ 7) : trn τ k = trn σ k := by
  unfold trn
  rw [LE_m h hk (by decide), LE_m h hk (by decide)]
theorem LE_ms (h : LE σ τ) (hk : 0 ≤ k ∧ k < σ 7) : msM (mrec τ k) + 10000000000 = msS σ k := by
  have r := h.re hk.1 hk.2
  have z : (0 : Int) + 11 = 11 := rfl
  unfold msM msS trn
  rw [r 5 (by decide) (by decide), r 3 (by decide) (by decide), r 4 (by decide) (by decide), r 1 (by decide) (by decide), z]
  show σ (11 + 13 * k + 5) - 6000 * (σ (11 + 13 * k + 3) + σ (11 + 13 * k + 4)) - σ (11 + 13 * k + 1) + 10000000000 = _
  rfl
theorem uOK_of (h : LE σ τ) (hF : fOK N σ) (hk : 0 ≤ k ∧ k < σ 7) : uOK (mrec τ k) := by
  have r := h.re hk.1 hk.2
  obtain ⟨a, b, c⟩ := mOK_of hF hk
  have z : (0 : Int) + 11 = 11 := rfl
  rw [z] at c
  unfold uOK
  rw [r 5 (by decide) (by decide), r 3 (by decide) (by decide), r 4 (by decide) (by decide), r 1 (by decide) (by decide)]
  exact ⟨a, b, c⟩
theorem LE_on (h : LE σ τ) (hF : fOK N σ) : ∀ n : Nat, (n : Int) ≤ σ 8 → onC τ n = onS σ n := by
  intro n
  induction n with
  | zero => intro _; rfl
  | succ n ih =>
    intro hn
    have hl := (hF.1.1.2.2.2 n (by omega) (by omega)).2.2
    show orI (onC τ n) (if τ (102 + 3 * (n : Int) + 2) = 0 then 0 else shI 1 n) = orI (onS σ n) (if σ (102 + 3 * (n : Int) + 2) = 1 then shI 1 n else 0)
    rw [ih (by omega), h.ld (i := 102 + 3 * (n : Int) + 2) (by omega) (by omega)]
    rcases hl with u | u <;> rw [u] <;> rfl
theorem LE_br (h : LE σ τ) (hF : fOK N σ) : ∀ n : Nat, (n : Int) ≤ σ 7 → brC τ n = brS σ n := by
  intro n
  induction n with
  | zero => intro _; rfl
  | succ n ih =>
    intro hn
    have hd := (dOK_0 (hF.1.2.2 n (by omega) (by omega))).2.2.2
    show orI (brC τ n) (if τ (11 + 13 * (n : Int) + 7) = 0 then 0 else shI 1 n) = orI (brS σ n) (shI (σ (11 + 13 * (n : Int) + 7)) n)
    rw [ih (by omega), h.me (i := 11 + 13 * (n : Int) + 7) (by omega) (by omega)]
    rcases hd with u | u <;> rw [u]
    · rw [if_pos rfl]
      unfold shI
      rw [Int.zero_mul]
    · rfl
theorem LE_tr (h : LE σ τ) : ∀ n : Nat, (n : Int) ≤ σ 7 → trS τ n = trS σ n := by
  intro n
  induction n with
  | zero => intro _; rfl
  | succ n ih =>
    intro hn
    show trS τ n + trn τ n = trS σ n + trn σ n
    rw [ih (by omega), LE_trn h ⟨by omega, by omega⟩]
theorem LE_cnt (h : SM N σ τ) (kn ln : Int) : cntC τ kn ln w = cntS σ kn ln w := by
  obtain ⟨hF, hB, h⟩ := h
  have h7 := hF.1.1.1
  have h8 := hF.1.1.2.1
  have e := fun (i : Int) (a : 0 ≤ i) (b : i < 9) => h.lo a b
  unfold cntC cntS
  rw [e 6 (by decide) (by decide), e 7 (by decide) (by decide), e 8 (by decide) (by decide), LE_on h hF _ (by omega), LE_br h hF _ (by omega), LE_tr h _ (by omega), h.ten, e 0 (by decide) (by decide), e 1 (by decide) (by decide), e 2 (by decide) (by decide), e 3 (by decide) (by decide), e 4 (by decide) (by decide), e 5 (by decide) (by decide)]
  have hbl : blC τ (σ 7).toNat = σ 9 := by
    rw [hB]
    exact blC_congr _ (fun i hi => h.me (by omega) (by omega))
  rw [hbl]
  by_cases q : 0 ≤ w ∧ w ≤ 16
  · rcases (show w = 0 ∨ w = 1 ∨ w = 2 ∨ w = 3 ∨ w = 4 ∨ w = 5 ∨ w = 6 ∨ w = 7 ∨ w = 8 ∨ w = 9 ∨ w = 10 ∨ w = 11 ∨ w = 12 ∨ w = 13 ∨ w = 14 ∨ w = 15 ∨ w = 16 by omega) with u | u | u | u | u | u | u | u | u | u | u | u | u | u | u | u | u <;> subst u <;> rfl
  · repeat rw [if_neg (by omega)]
theorem LE_wst (h : LE σ τ) : ∀ n : Nat, ((n : Int) + 1) ≤ σ 7 → wst σ (n + 1) = mmC τ n := by
  intro n
  induction n with
  | zero => intro _; rfl
  | succ n ih =>
    intro hn
    have ih := ih (by omega)
    have hr := mmC_rng τ n
    show (if wst σ (n + 1) = -6 ∨ msS σ (wst σ (n + 1)) < msS σ ((n + 1 : Nat) : Int) then ((n + 1 : Nat) : Int) else wst σ (n + 1)) = if msM (mrec τ (mmC τ n)) < msM (mrec τ ((n : Int) + 1)) then (n : Int) + 1 else mmC τ n
    rw [ih, ← LE_ms h ⟨hr.1, by omega⟩, ← LE_ms h (k := ((n + 1 : Nat) : Int)) ⟨by omega, by omega⟩, show ((n + 1 : Nat) : Int) = (n : Int) + 1 by omega]
    by_cases q : msM (mrec τ (mmC τ n)) < msM (mrec τ ((n : Int) + 1))
    · rw [if_pos q, if_pos (Or.inr (by omega))]
    · rw [if_neg q, if_neg (by omega)]
theorem LE_worst (h : LE σ τ) (h7 : 0 ≤ σ 7) : (if τ 7 = 0 then -6 else mmC τ (τ 7 - 1).toNat) = wst σ (σ 7).toNat := by
  rw [h.lo (i := 7) (by decide) (by decide)]
  by_cases q : σ 7 = 0
  · rw [if_pos q, q]; rfl
  · rw [if_neg q, show (σ 7).toNat = (σ 7 - 1).toNat + 1 by omega]
    exact (LE_wst h _ (by omega)).symm
theorem LE_lags (h : LE σ τ) (hF : fOK N σ) (hk : 0 ≤ k ∧ k < σ 7) : tbC τ k (τ 7 - k - 1).toNat - trn τ k + 10000000 = lgS σ k (σ 7 - 1).toNat := by
  have e7 := h.lo (i := 7) (by decide) (by decide)
  have low : ∀ n : Nat, (n : Int) ≤ k → lgS σ k n = 10000000 - trn σ k := by
    intro n
    induction n with
    | zero => intro _; rfl
    | succ n ih =>
      intro hn
      have := hF.1.1.2.2.1 ((n : Int) + 1) (by omega) (by omega)
      show lgS σ k n + (if σ (11 + 13 * ((n : Int) + 1) + 0) = k then trn σ ((n : Int) + 1) else 0) = _
      rw [ih (by omega), Int.add_zero, if_neg (by omega), Int.add_zero]
  have key : ∀ n : Nat, k + n + 1 ≤ σ 7 → lgS σ k (k.toNat + n) = tbC τ k n - trn σ k + 10000000 := by
    intro n
    induction n with
    | zero =>
      intro _
      show lgS σ k k.toNat = 0 - trn σ k + 10000000
      rw [low _ (by omega)]; omega
    | succ n ih =>
      intro hn
      show lgS σ k (k.toNat + n) + (if σ (11 + 13 * (((k.toNat + n : Nat) : Int) + 1) + 0) = k then trn σ (((k.toNat + n : Nat) : Int) + 1) else 0) = tbC τ k n + (if τ (11 + 13 * (k + 1 + (n : Int)) + 0) = k then trn τ (k + 1 + (n : Int)) else 0) - trn σ k + 10000000
      rw [ih (by omega), show ((k.toNat + n : Nat) : Int) + 1 = k + 1 + (n : Int) by omega, LE_trn h ⟨by omega, by omega⟩, h.me (i := 11 + 13 * (k + 1 + (n : Int)) + 0) (by omega) (by omega)]
      omega
  have := key (σ 7 - k - 1).toNat (by omega)
  rw [show k.toNat + (σ 7 - k - 1).toNat = (σ 7 - 1).toNat by omega] at this
  rw [this, e7, LE_trn h hk]
end QS
