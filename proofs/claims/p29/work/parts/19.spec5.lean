/-! texts, as the reference reads them -/
def dgS (pd : Int → Int) (ln p : Int) : Int := if p < ln ∧ 48 ≤ pd p ∧ pd p ≤ 57 then pd p - 48 else -1
def cdS (pd : Int → Int) (ln p : Int) : Int := if p < ln then pd p else -1
/-- the pad's characters -/
def pOK (pd : Int → Int) (ln : Int) : Prop := (0 ≤ ln ∧ ln ≤ 80) ∧ ∀ i : Int, 0 ≤ i → i < ln → 33 ≤ pd i ∧ pd i ≤ 126
theorem dgS_rng (pd : Int → Int) (ln p : Int) : -1 ≤ dgS pd ln p ∧ dgS pd ln p ≤ 9 := by unfold dgS; split <;> omega
theorem cdS_rng {pd : Int → Int} {ln p : Int} (h : pOK pd ln) (hp : 0 ≤ p) : -1 ≤ cdS pd ln p ∧ cdS pd ln p ≤ 126 := by
  unfold cdS
  split
  · have := h.2 p hp (by omega); omega
  · omega
theorem dgS_lt {pd : Int → Int} {ln p : Int} (h : 0 ≤ dgS pd ln p) : p < ln := by
  unfold dgS at h
  split at h <;> omega
theorem cdS_lt {pd : Int → Int} {ln p : Int} (h : 0 ≤ cdS pd ln p) : p < ln := by
  unfold cdS at h
  split at h <;> omega
def nend (pd : Int → Int) (ln p : Int) : Int := if dgS pd ln p < 0 then -1 - p else if dgS pd ln p = 0 ∨ dgS pd ln (p + 1) < 0 then p + 1 else if dgS pd ln (p + 2) < 0 then p + 2 else if dgS pd ln (p + 3) < 0 then p + 3 else p + 4
theorem nend_rng (pd : Int → Int) (ln p : Int) : nend pd ln p = -1 - p ∨ (p + 1 ≤ nend pd ln p ∧ nend pd ln p ≤ p + 4) := by unfold nend; repeat' split <;> omega
theorem nend_dig {pd : Int → Int} {ln p : Int} (h0 : 0 ≤ p) : ∀ i : Int, p ≤ i → i < nend pd ln p → 0 ≤ dgS pd ln i := by
  intro i h1 h2
  have e : i = p ∨ i = p + 1 ∨ i = p + 2 ∨ i = p + 3 := by have := nend_rng pd ln p; omega
  unfold nend at h2
  rcases e with e | e | e | e <;> subst e <;> (repeat' split at h2) <;> omega
def nval (pd : Int → Int) (ln p : Int) : Nat → Int
  | 0 => 0
  | n + 1 => 10 * nval pd ln p n + dgS pd ln (p + n)
def numA (pd : Int → Int) (ln p : Int) : Int := nval pd ln p (nend pd ln p - p).toNat
theorem numA_rng (pd : Int → Int) (ln p : Int) (h0 : 0 ≤ p) : 0 ≤ numA pd ln p ∧ numA pd ln p ≤ 9999 := by
  have hr := nend_rng pd ln p
  have hd := nend_dig (pd := pd) (ln := ln) h0
  have d0 := dgS_rng pd ln (p + 0)
  have d1 := dgS_rng pd ln (p + 1)
  have d2 := dgS_rng pd ln (p + 2)
  have d3 := dgS_rng pd ln (p + 3)
  have g0 := hd (p + 0)
  have g1 := hd (p + 1)
  have g2 := hd (p + 2)
  have g3 := hd (p + 3)
  unfold numA
  rcases (show (nend pd ln p - p).toNat = 0 ∨ (nend pd ln p - p).toNat = 1 ∨ (nend pd ln p - p).toNat = 2 ∨ (nend pd ln p - p).toNat = 3 ∨ (nend pd ln p - p).toNat = 4 by omega) with h | h | h | h | h <;> rw [h]
  · exact ⟨Int.le_refl _, by show (0 : Int) ≤ 9999; decide⟩
  · show 0 ≤ 10 * 0 + dgS pd ln (p + 0) ∧ 10 * 0 + dgS pd ln (p + 0) ≤ 9999
    omega
  · show 0 ≤ 10 * (10 * 0 + dgS pd ln (p + 0)) + dgS pd ln (p + 1) ∧ 10 * (10 * 0 + dgS pd ln (p + 0)) + dgS pd ln (p + 1) ≤ 9999
    omega
  · show 0 ≤ 10 * (10 * (10 * 0 + dgS pd ln (p + 0)) + dgS pd ln (p + 1)) + dgS pd ln (p + 2) ∧ 10 * (10 * (10 * 0 + dgS pd ln (p + 0)) + dgS pd ln (p + 1)) + dgS pd ln (p + 2) ≤ 9999
    omega
  · show 0 ≤ 10 * (10 * (10 * (10 * 0 + dgS pd ln (p + 0)) + dgS pd ln (p + 1)) + dgS pd ln (p + 2)) + dgS pd ln (p + 3) ∧ 10 * (10 * (10 * (10 * 0 + dgS pd ln (p + 0)) + dgS pd ln (p + 1)) + dgS pd ln (p + 2)) + dgS pd ln (p + 3) ≤ 9999
    omega
def ordE (pd : Int → Int) (ln p : Int) : Int :=
  if cdS pd ln p = 109 then (if dgS pd ln (p + 1) < 0 then p + 1 else p + 2)
  else if cdS pd ln p = 108 then (if dgS pd ln (p + 1) < 0 then -2 - p else if cdS pd ln (p + 2) = 61 then nend pd ln (p + 3) else -3 - p)
  else if cdS pd ln p = 115 ∨ cdS pd ln p = 116 then nend pd ln (p + 1)
  else if cdS pd ln p = 98 ∨ cdS pd ln p = 118 then (if dgS pd ln (p + 1) < 0 then -2 - p else p + 2)
  else -1 - p
theorem ordE_rng (pd : Int → Int) (ln p : Int) (h0 : 0 ≤ p) : -5 - p ≤ ordE pd ln p ∧ ordE pd ln p ≤ p + 7 ∧ (0 ≤ ordE pd ln p → p + 1 ≤ ordE pd ln p) := by
  have h1 := nend_rng pd ln (p + 3)
  have h2 := nend_rng pd ln (p + 1)
  unfold ordE
  repeat' split <;> omega
def flt (pd : Int → Int) (ln : Int) : Nat → Int → Int
  | 0, _ => -6
  | n + 1, p => if ordE pd ln p < 0 then -1 - ordE pd ln p else if ordE pd ln p = ln then -6 else if cdS pd ln (ordE pd ln p) = 59 then flt pd ln n (ordE pd ln p + 1) else ordE pd ln p
def whN (σ pd : Int → Int) (ln p : Int) : Int :=
  if cdS pd ln p = 109 then wnM σ (if dgS pd ln (p + 1) < 0 then 0 else dgS pd ln (p + 1))
  else if cdS pd ln p = 108 then wnL σ (dgS pd ln (p + 1)) (numA pd ln (p + 3))
  else if cdS pd ln p = 115 then (if 0 ≤ numA pd ln (p + 1) ∧ numA pd ln (p + 1) < σ 8 then 0 else -1)
  else if cdS pd ln p = 116 then wnP σ (numA pd ln (p + 1))
  else if cdS pd ln p = 98 then wnT σ (dgS pd ln (p + 1))
  else (if 0 ≤ dgS pd ln (p + 1) ∧ dgS pd ln (p + 1) < σ 7 then 0 else -1)
def dosS (σ pd : Int → Int) (ln p : Int) : Int → Int :=
  if cdS pd ln p = 109 then comF σ (if dgS pd ln (p + 1) < 0 then 0 else dgS pd ln (p + 1))
  else if cdS pd ln p = 108 then ldF σ (dgS pd ln (p + 1)) (numA pd ln (p + 3))
  else if cdS pd ln p = 115 then tnF σ (numA pd ln (p + 1))
  else if cdS pd ln p = 116 then pMins σ 0 (numA pd ln (p + 1)).toNat
  else if cdS pd ln p = 98 then tpF σ (dgS pd ln (p + 1))
  else vsF σ (dgS pd ln (p + 1))
def dosR (σ pd : Int → Int) (ln p : Int) : Int :=
  if cdS pd ln p = 109 then σ 7
  else if cdS pd ln p = 108 then σ 8
  else if cdS pd ln p = 115 then 1 - σ (102 + 3 * numA pd ln (p + 1) + 2)
  else if cdS pd ln p = 116 then tMins σ 0 (numA pd ln (p + 1)).toNat
  else if cdS pd ln p = 98 then dgS pd ln (p + 1)
  else billS σ (dgS pd ln (p + 1))
def cosS (pd : Int → Int) (ln : Int) : Nat → (Int → Int) → Int → Int → Int
  | 0, σ, _ => σ
  | f + 1, σ, p => if p < ln ∧ whN σ pd ln p = 0 then cosS pd ln f (dosS σ pd ln p) (ordE pd ln p + 1) else σ
def cosN (pd : Int → Int) (ln : Int) : Nat → (Int → Int) → Int → Int
  | 0, _, _ => 0
  | f + 1, σ, p => if p < ln ∧ whN σ pd ln p = 0 then cosN pd ln f (dosS σ pd ln p) (ordE pd ln p + 1) + 1 else 0
/-! all that holds of a house, at every time; N bounds the numbers of seals -/
def kOK (σ : Int → Int) (k : Int) : Prop := (0 ≤ σ (11 + 13 * k + 11) ∧ σ (11 + 13 * k + 11) ≤ σ (11 + 13 * k + 3)) ∧ (0 ≤ σ (11 + 13 * k + 12) ∧ σ (11 + 13 * k + 12) ≤ σ (11 + 13 * k + 4)) ∧ σ (11 + 13 * k + 3) + σ (11 + 13 * k + 4) ≤ 13 * σ 6 ∧ (0 ≤ σ (11 + 13 * k + 5) ∧ σ (11 + 13 * k + 5) ≤ 48000 * σ 6) ∧ (0 ≤ σ (11 + 13 * k + 6) ∧ σ (11 + 13 * k + 6) ≤ σ 10)
def fOK (N : Int) (σ : Int → Int) : Prop := gOK σ 0 ∧ σ 6 ≤ 99999 ∧ (0 ≤ σ 4 ∧ σ 4 ≤ 99) ∧ (0 ≤ σ 5 ∧ σ 5 ≤ 99) ∧ (0 ≤ σ 10 ∧ σ 10 ≤ N) ∧ (0 < σ 7 → σ 11 = -1) ∧ ∀ k : Int, 0 ≤ k → k < σ 7 → kOK σ k
theorem fOK_mono {N M : Int} {σ : Int → Int} (h : fOK N σ) (hm : N ≤ M) : fOK M σ := by
  obtain ⟨h1, h2, h3, h4, h5, h6, h7⟩ := h
  exact ⟨h1, h2, h3, h4, ⟨h5.1, by omega⟩, h6, h7⟩
theorem fOK_6 {N : Int} {σ : Int → Int} (h : fOK N σ) : 0 ≤ σ 6 ∧ σ 6 ≤ 99999 := ⟨h.1.2.1.2.2.2.2.1, h.2.1⟩
theorem dOK_0 {σ : Int → Int} {k : Int} (h : dOK σ 0 k) : (0 ≤ σ (11 + 13 * k + 1) ∧ σ (11 + 13 * k + 1) < 6000) ∧ (100 ≤ σ (11 + 13 * k + 2) ∧ σ (11 + 13 * k + 2) ≤ 160) ∧ (0 ≤ σ (11 + 13 * k + 9) ∧ σ (11 + 13 * k + 9) ≤ 5000) ∧ (σ (11 + 13 * k + 7) = 0 ∨ σ (11 + 13 * k + 7) = 1) := by
  unfold dOK at h
  rw [show (0 : Int) + 11 = 11 from rfl] at h
  exact h
theorem dOK_of0 {σ : Int → Int} {k : Int} (h : (0 ≤ σ (11 + 13 * k + 1) ∧ σ (11 + 13 * k + 1) < 6000) ∧ (100 ≤ σ (11 + 13 * k + 2) ∧ σ (11 + 13 * k + 2) ≤ 160) ∧ (0 ≤ σ (11 + 13 * k + 9) ∧ σ (11 + 13 * k + 9) ≤ 5000) ∧ (σ (11 + 13 * k + 7) = 0 ∨ σ (11 + 13 * k + 7) = 1)) : dOK σ 0 k := by
  unfold dOK
  rw [show (0 : Int) + 11 = 11 from rfl]
  exact h
theorem bill_rng {N : Int} {σ : Int → Int} {k : Int} (h : fOK N σ) (hk : 0 ≤ k ∧ k < σ 7) : 0 ≤ billS σ k ∧ billS σ k ≤ 128698713 := by
  obtain ⟨hG, h6, h4, h5, hs, h0, hm⟩ := h
  obtain ⟨⟨m1, m2⟩, ⟨m3, m4⟩, m5, m6, m7⟩ := hm k hk.1 hk.2
  unfold billS
  rw [show (0 : Int) + 11 = 11 from rfl]
  have ha : 0 ≤ σ 4 * (σ (11 + 13 * k + 3) - σ (11 + 13 * k + 11)) ∧ σ 4 * (σ (11 + 13 * k + 3) - σ (11 + 13 * k + 11)) ≤ 99 * (σ (11 + 13 * k + 3) - σ (11 + 13 * k + 11)) := ⟨Int.mul_nonneg h4.1 (by omega), Int.mul_le_mul_of_nonneg_right h4.2 (by omega)⟩
  have hb : 0 ≤ σ 5 * (σ (11 + 13 * k + 4) - σ (11 + 13 * k + 12)) ∧ σ 5 * (σ (11 + 13 * k + 4) - σ (11 + 13 * k + 12)) ≤ 99 * (σ (11 + 13 * k + 4) - σ (11 + 13 * k + 12)) := ⟨Int.mul_nonneg h5.1 (by omega), Int.mul_le_mul_of_nonneg_right h5.2 (by omega)⟩
  omega
theorem mOK_of {N : Int} {σ : Int → Int} {k : Int} (h : fOK N σ) (hk : 0 ≤ k ∧ k < σ 7) : mOK σ k := by
  have hd := dOK_0 (h.1.2.2 k hk.1 hk.2)
  have h6 := fOK_6 h
  obtain ⟨⟨m1, m2⟩, ⟨m3, m4⟩, m5, m6, m7⟩ := h.2.2.2.2.2.2 k hk.1 hk.2
  refine ⟨?_, hd.1, ?_⟩
  · unfold trn; omega
  · rw [show (0 : Int) + 11 = 11 from rfl]; omega
theorem flt_rng {pd : Int → Int} {ln : Int} (h : pOK pd ln) : ∀ (f : Nat) (p : Int), 0 ≤ p → p ≤ ln → -6 ≤ flt pd ln f p ∧ flt pd ln f p ≤ 200 := by
  intro f
  induction f with
  | zero => intro p _ _; show (-6 : Int) ≤ -6 ∧ (-6 : Int) ≤ 200; decide
  | succ f ih =>
    intro p h0 h1
    have hl := h.1
    have ho := ordE_rng pd ln p h0
    unfold flt
    split
    · omega
    · split
      · exact ⟨by decide, by decide⟩
      · split
        · rename_i hc
          have := cdS_lt (pd := pd) (ln := ln) (p := ordE pd ln p) (by omega)
          exact ih _ (by omega) (by omega)
        · omega
theorem flt_ord {pd : Int → Int} {ln p : Int} {g : Nat} (h : flt pd ln (g + 1) p = -6) (h0 : 0 ≤ p) : 0 ≤ ordE pd ln p ∧ (ordE pd ln p = ln ∨ (cdS pd ln (ordE pd ln p) = 59 ∧ flt pd ln g (ordE pd ln p + 1) = -6)) := by
  unfold flt at h
  split at h
  · omega
  · split at h
    · rename_i e1 e2
      exact ⟨by omega, Or.inl e2⟩
    · split at h
      · rename_i e1 e2 e3
        exact ⟨by omega, Or.inr ⟨e3, h⟩⟩
      · omega
theorem cosS_go {σ pd : Int → Int} {ln p : Int} {f : Nat} (h1 : p < ln) (h2 : whN σ pd ln p = 0) : cosS pd ln (f + 1) σ p = cosS pd ln f (dosS σ pd ln p) (ordE pd ln p + 1) := if_pos ⟨h1, h2⟩
theorem cosN_go {σ pd : Int → Int} {ln p : Int} {f : Nat} (h1 : p < ln) (h2 : whN σ pd ln p = 0) : cosN pd ln (f + 1) σ p = cosN pd ln f (dosS σ pd ln p) (ordE pd ln p + 1) + 1 := if_pos ⟨h1, h2⟩
theorem cosS_stop {σ pd : Int → Int} {ln p : Int} {f : Nat} (h : ¬ (p < ln ∧ whN σ pd ln p = 0)) : cosS pd ln f σ p = σ := by
  cases f with
  | zero => rfl
  | succ f => exact if_neg h
theorem cosN_stop {σ pd : Int → Int} {ln p : Int} {f : Nat} (h : ¬ (p < ln ∧ whN σ pd ln p = 0)) : cosN pd ln f σ p = 0 := by
  cases f with
  | zero => rfl
  | succ f => exact if_neg h
/-! what a change leaves, place by place -/
theorem comF_at {σ : Int → Int} {k : Int} (h : 0 ≤ σ 7) (i : Int) : comF σ k i = if i = 7 then σ 7 + 1 else if i = 10 then σ 10 + 1 else if i = 11 + 13 * σ 7 + 6 then σ 10 + 1 else if i = 11 + 13 * σ 7 + 2 then 100 else if i = 11 + 13 * σ 7 then (if σ 7 = 0 then -1 else k) else if 11 + 13 * σ 7 ≤ i ∧ i < 11 + 13 * σ 7 + 13 then 0 else σ i := by
  have eZ : comZ σ 10 = σ 10 := cpN_out (by omega)
  have e10 : comC σ k 10 = σ 10 + 1 := (up_n (by omega)).trans ((up_n (by omega)).trans ((up_s _ _ _).trans (by rw [eZ])))
  have e7 := comD_7 (k := k) h
  unfold comF
  rw [e7]
  unfold comD
  rw [e10]
  unfold comC comB comA
  rw [eZ]
  unfold comZ up
  generalize (if σ 7 = 0 then (-1 : Int) else k) = th
  by_cases h7 : i = 7
  · rw [if_pos h7, if_pos h7]
  · rw [if_neg h7, if_neg h7]
    by_cases h6 : i = 0 + 11 + 13 * σ 7 + 6
    · rw [if_pos h6, if_neg (by omega), if_pos (by omega)]
    · rw [if_neg h6]
      by_cases h2 : i = 0 + 11 + 13 * σ 7 + 2
      · rw [if_pos h2, if_neg (by omega), if_neg (by omega), if_pos (by omega)]
      · rw [if_neg h2]
        by_cases h0 : i = 0 + 11 + 13 * σ 7 + 0
        · rw [if_pos h0, if_neg (by omega), if_neg (by omega), if_neg (by omega), if_pos (by omega)]
        · rw [if_neg h0]
          by_cases hA : i = 10
          · rw [if_pos hA, if_pos hA]
          · rw [if_neg hA, if_neg hA, if_neg (by omega), if_neg (by omega), if_neg (by omega)]
            by_cases hz : 0 + 11 + 13 * σ 7 ≤ i ∧ i < 0 + 11 + 13 * σ 7 + 13
            · rw [cpN_in hz, if_pos (by omega)]
            · rw [cpN_out hz, if_neg (by omega)]
theorem comF_lo {σ : Int → Int} {k i : Int} (h : 0 ≤ σ 7) (h7 : i ≠ 7) (hA : i ≠ 10) (hi : i < 11 + 13 * σ 7 ∨ 11 + 13 * σ 7 + 13 ≤ i) : comF σ k i = σ i := by
  rw [comF_at h, if_neg h7, if_neg hA, if_neg (by omega), if_neg (by omega), if_neg (by omega), if_neg (by omega)]
theorem comF_7 {σ : Int → Int} {k : Int} (h : 0 ≤ σ 7) : comF σ k 7 = σ 7 + 1 := by rw [comF_at h, if_pos rfl]
theorem comF_10 {σ : Int → Int} {k : Int} (h : 0 ≤ σ 7) : comF σ k 10 = σ 10 + 1 := by rw [comF_at h, if_neg (by decide), if_pos rfl]
theorem comF_new {σ : Int → Int} {k j : Int} (h : 0 ≤ σ 7) (hj : 0 ≤ j ∧ j < 13) : comF σ k (11 + 13 * σ 7 + j) = if j = 6 then σ 10 + 1 else if j = 2 then 100 else if j = 0 then (if σ 7 = 0 then -1 else k) else 0 := by
  rw [comF_at h, if_neg (by omega), if_neg (by omega)]
  by_cases h6 : j = 6
  · rw [if_pos (by omega), if_pos h6]
  · rw [if_neg (by omega), if_neg h6]
    by_cases h2 : j = 2
    · rw [if_pos (by omega), if_pos h2]
    · rw [if_neg (by omega), if_neg h2]
      by_cases h0 : j = 0
      · rw [if_pos (by omega), if_pos h0]
      · rw [if_neg (by omega), if_neg h0, if_pos (by omega)]
/-- fOK by places: where settings, counts, loads and meters of τ are as they have to be -/
theorem fOK_of {N M : Int} {σ τ : Int → Int} (h : fOK N σ) (hL : lOK τ) (h0 : ∀ i : Int, 0 ≤ i → i ≤ 5 → τ i = σ i) (h6 : τ 6 = σ 6) (hA : 0 ≤ τ 10 ∧ τ 10 ≤ M) (hAs : σ 10 ≤ τ 10) (ht : 0 < τ 7 → τ 11 = -1)
    (hm : ∀ k : Int, 0 ≤ k → k < τ 7 → (k < σ 7 ∧ (∀ j : Int, 1 ≤ j → j < 13 → τ (11 + 13 * k + j) = σ (11 + 13 * k + j))) ∨ (dOK τ 0 k ∧ kOK τ k)) : fOK M τ := by
  obtain ⟨⟨g1, g2, g3⟩, f6, f4, f5, fA, f11, fm⟩ := h
  have s0 := h0 0 (by decide) (by decide)
  have s1 := h0 1 (by decide) (by decide)
  have s2 := h0 2 (by decide) (by decide)
  have s3 := h0 3 (by decide) (by decide)
  have s4 := h0 4 (by decide) (by decide)
  have s5 := h0 5 (by decide) (by decide)
  refine ⟨⟨hL, ?_, ?_⟩, by rw [h6]; exact f6, by rw [s4]; exact f4, by rw [s5]; exact f5, hA, ht, ?_⟩
  · exact sOK_of g2 s0 s1 s2 s3 (by show 0 ≤ τ 6 ∧ τ 6 < 1000000; rw [h6]; exact g2.2.2.2.2)
  · intro k a b
    rcases hm k a b with ⟨e1, e2⟩ | ⟨e1, e2⟩
    · apply dOK_of0
      have hd := dOK_0 (g3 k a e1)
      rw [e2 1 (by decide) (by decide), e2 2 (by decide) (by decide), e2 9 (by decide) (by decide), e2 7 (by decide) (by decide)]
      exact hd
    · exact e1
  · intro k a b
    rcases hm k a b with ⟨e1, e2⟩ | ⟨e1, e2⟩
    · have hk := fm k a e1
      unfold kOK at hk ⊢
      rw [e2 11 (by decide) (by decide), e2 3 (by decide) (by decide), e2 12 (by decide) (by decide), e2 4 (by decide) (by decide), e2 5 (by decide) (by decide), e2 6 (by decide) (by decide), h6]
      obtain ⟨k1, k2, k3, k4, k5⟩ := hk
      exact ⟨k1, k2, k3, k4, k5.1, by omega⟩
    · exact e2
theorem fOK_com {N : Int} {σ : Int → Int} {k : Int} (h : fOK N σ) (h7 : σ 7 < 7) (hk : σ 7 = 0 ∨ (0 ≤ k ∧ k < σ 7)) : fOK (N + 1) (comF σ k) := by
  have hL := h.1.1
  have h70 := hL.1
  have h6 := fOK_6 h
  have hA := h.2.2.2.2.1
  have e7 := comF_7 (k := k) h70.1
  have e10 := comF_10 (k := k) h70.1
  refine fOK_of h ?_ (fun i a b => comF_lo h70.1 (by omega) (by omega) (by omega)) (comF_lo h70.1 (by decide) (by decide) (by omega)) (by rw [e10]; omega) (by rw [e10]; omega) ?_ ?_
  · obtain ⟨l1, l2, l3, l4⟩ := hL
    have e8 : comF σ k 8 = σ 8 := comF_lo h70.1 (by decide) (by decide) (by omega)
    refine ⟨by rw [e7]; omega, by rw [e8]; exact l2, fun i a b => ?_, fun j a b => ?_⟩
    · rw [e7] at b
      by_cases hi : i = σ 7
      · subst hi
        have := comF_new (k := k) (j := 0) h70.1 (by decide)
        rw [Int.add_zero] at this
        rw [this, if_neg (by decide), if_neg (by decide), if_pos rfl, if_neg (by omega)]
        omega
      · rw [comF_lo h70.1 (by omega) (by omega) (by omega)]
        exact l3 i a (by omega)
    · rw [e8] at b
      rw [comF_lo (i := 102 + 3 * j) h70.1 (by omega) (by omega) (by omega), comF_lo (i := 102 + 3 * j + 1) h70.1 (by omega) (by omega) (by omega), comF_lo (i := 102 + 3 * j + 2) h70.1 (by omega) (by omega) (by omega), e7]
      have := l4 j a b
      exact ⟨by omega, this.2⟩
  · intro _
    by_cases hz : σ 7 = 0
    · have := comF_new (k := k) (j := 0) h70.1 (by decide)
      rw [hz] at this
      rw [show (11 : Int) = 11 + 13 * 0 + 0 from rfl, this, if_neg (by decide), if_neg (by decide), if_pos rfl, if_pos rfl]
    · rw [comF_lo h70.1 (by decide) (by decide) (by omega)]
      exact h.2.2.2.2.2.1 (by omega)
  · intro j a b
    rw [e7] at b
    by_cases hj : j = σ 7
    · right
      subst hj
      have e := fun (t : Int) (ht : 0 ≤ t ∧ t < 13) => comF_new (k := k) (j := t) h70.1 ht
      refine ⟨dOK_of0 ?_, ?_⟩
      · rw [e 1 (by decide), e 2 (by decide), e 9 (by decide), e 7 (by decide)]
        simp
      · unfold kOK
        rw [e 11 (by decide), e 3 (by decide), e 12 (by decide), e 4 (by decide), e 5 (by decide), e 6 (by decide), e10, comF_lo (i := 6) h70.1 (by decide) (by decide) (by omega)]
        simp
        omega
    · left
      exact ⟨by omega, fun t t0 t1 => comF_lo h70.1 (by omega) (by omega) (by omega)⟩
theorem ldF_at {σ : Int → Int} {k w : Int} (h : 0 ≤ σ 8) (i : Int) : ldF σ k w i = if i = 8 then σ 8 + 1 else if i = 102 + 3 * σ 8 + 2 then 0 else if i = 102 + 3 * σ 8 + 1 then w else if i = 102 + 3 * σ 8 then k else σ i := by
  unfold ldF
  rw [ldA_8 h]
  unfold ldA up
  rfl
theorem ldF_lo {σ : Int → Int} {k w i : Int} (h : 0 ≤ σ 8) (h8 : i ≠ 8) (hi : i < 102 + 3 * σ 8 ∨ 102 + 3 * σ 8 + 3 ≤ i) : ldF σ k w i = σ i := by
  rw [ldF_at h, if_neg h8, if_neg (by omega), if_neg (by omega), if_neg (by omega)]
theorem fOK_ld {N : Int} {σ : Int → Int} {k w : Int} (h : fOK N σ) (hk : (0 ≤ k ∧ k < σ 7) ∧ (1 ≤ w ∧ w ≤ 4000) ∧ σ 8 < 12) : fOK N (ldF σ k w) := by
  have hL := h.1.1
  obtain ⟨l1, l2, l3, l4⟩ := hL
  have hA := h.2.2.2.2.1
  have lo := fun (i : Int) (h1 : i ≠ 8) (h2 : i < 102) => ldF_lo (σ := σ) (k := k) (w := w) (i := i) l2.1 h1 (by omega)
  have e7 := lo 7 (by decide) (by decide)
  have e8 : ldF σ k w 8 = σ 8 + 1 := by rw [ldF_at l2.1, if_pos rfl]
  have e10 := lo 10 (by decide) (by decide)
  refine fOK_of h ⟨by rw [e7]; exact l1, by rw [e8]; omega, fun i a b => ?_, fun j a b => ?_⟩ (fun i a b => lo i (by omega) (by omega)) (lo 6 (by decide) (by decide)) (by rw [e10]; exact hA) (by rw [e10]; exact Int.le_refl _) (fun q => by rw [lo 11 (by decide) (by decide)]; exact h.2.2.2.2.2.1 (by omega)) (fun j a b => Or.inl ⟨by omega, fun t t0 t1 => lo _ (by omega) (by omega)⟩)
  · rw [e7] at b
    rw [lo _ (by omega) (by omega)]
    exact l3 i a b
  · rw [e8] at b
    rw [e7]
    by_cases hj : j = σ 8
    · subst hj
      rw [ldF_at l2.1, ldF_at l2.1, ldF_at l2.1, if_neg (by omega), if_neg (by omega), if_neg (by omega), if_pos rfl, if_neg (by omega), if_neg (by omega), if_pos rfl, if_neg (by omega), if_pos rfl]
      exact ⟨hk.1, hk.2.1, Or.inl rfl⟩
    · rw [ldF_lo (i := 102 + 3 * j) l2.1 (by omega) (by omega), ldF_lo (i := 102 + 3 * j + 1) l2.1 (by omega) (by omega), ldF_lo (i := 102 + 3 * j + 2) l2.1 (by omega) (by omega)]
      exact l4 j a (by omega)
theorem fOK_tn {N : Int} {σ : Int → Int} {k : Int} (h : fOK N σ) (hk : 0 ≤ k ∧ k < σ 8) : fOK N (tnF σ k) := by
  obtain ⟨l1, l2, l3, l4⟩ := h.1.1
  have hA := h.2.2.2.2.1
  have lo := fun (i : Int) (h1 : i ≠ 102 + 3 * k + 2) => up_n (G := σ) (i := 102 + 3 * k + 2) (v := 1 - σ (102 + 3 * k + 2)) (k := i) h1
  have e7 := lo 7 (by omega)
  have e8 := lo 8 (by omega)
  have e10 := lo 10 (by omega)
  unfold tnF
  refine fOK_of h ⟨by rw [e7]; exact l1, by rw [e8]; exact l2, fun i a b => ?_, fun j a b => ?_⟩ (fun i a b => lo i (by omega)) (lo 6 (by omega)) (by rw [e10]; exact hA) (by rw [e10]; exact Int.le_refl _) (fun q => by rw [lo 11 (by omega)]; exact h.2.2.2.2.2.1 (by omega)) (fun j a b => Or.inl ⟨by omega, fun t t0 t1 => lo _ (by omega)⟩)
  · rw [e7] at b
    rw [lo _ (by omega)]
    exact l3 i a b
  · rw [e8] at b
    have := l4 j a b
    rw [e7, lo (102 + 3 * j) (by omega), lo (102 + 3 * j + 1) (by omega)]
    by_cases hj : j = k
    · subst hj
      rw [up_s]
      exact ⟨this.1, this.2.1, by omega⟩
    · rw [lo (102 + 3 * j + 2) (by omega)]
      exact this
theorem lOK_lo {σ τ : Int → Int} (h : lOK σ) (h7 : τ 7 = σ 7) (h8 : τ 8 = σ 8) (hm : ∀ i : Int, τ (11 + 13 * i) = σ (11 + 13 * i)) (hl : ∀ j : Int, 102 ≤ j → j < 138 → τ j = σ j) : lOK τ := lOK_of h h7 h8 (fun i _ _ => hm i) hl
theorem fOK_tp {N : Int} {σ : Int → Int} {k : Int} (h : fOK N σ) (hk : 0 ≤ k ∧ k < σ 7) : fOK N (tpF σ k) := by
  have h7 := h.1.1.1
  have hA := h.2.2.2.2.1
  have lo := fun (i : Int) (h1 : i ≠ 0 + 11 + 13 * k + 7) => up_n (G := σ) (i := 0 + 11 + 13 * k + 7) (v := 1) (k := i) h1
  have e7 := lo 7 (by omega)
  have e10 := lo 10 (by omega)
  unfold tpF
  refine fOK_of h (lOK_of h.1.1 e7 (lo 8 (by omega)) (fun i a b => lo _ (by omega)) (fun j a b => lo _ (by omega))) (fun i a b => lo i (by omega)) (lo 6 (by omega)) (by rw [e10]; exact hA) (by rw [e10]; exact Int.le_refl _) (fun q => by rw [lo 11 (by omega)]; exact h.2.2.2.2.2.1 (by omega)) (fun j a b => ?_)
  rw [e7] at b
  by_cases hj : j = k
  · right
    subst hj
    have hd := dOK_0 (h.1.2.2 j a b)
    have hk2 := h.2.2.2.2.2.2 j a b
    refine ⟨dOK_of0 ?_, ?_⟩
    · rw [lo (11 + 13 * j + 1) (by omega), lo (11 + 13 * j + 2) (by omega), lo (11 + 13 * j + 9) (by omega), show 11 + 13 * j + 7 = 0 + 11 + 13 * j + 7 by omega, up_s]
      exact ⟨hd.1, hd.2.1, hd.2.2.1, Or.inr rfl⟩
    · unfold kOK
      rw [lo (11 + 13 * j + 11) (by omega), lo (11 + 13 * j + 3) (by omega), lo (11 + 13 * j + 12) (by omega), lo (11 + 13 * j + 4) (by omega), lo (11 + 13 * j + 5) (by omega), lo (11 + 13 * j + 6) (by omega), lo 6 (by omega), e10]
      exact hk2
  · left
    exact ⟨b, fun t t0 t1 => lo _ (by omega)⟩
theorem vsG_at {σ : Int → Int} {k : Int} (hk : 0 ≤ k) (i : Int) : vsG σ k i = if i = 0 + 11 + 13 * k + 10 then σ (0 + 11 + 13 * k + 10) + 1 else if i = 0 + 11 + 13 * k + 9 then 0 else if i = 0 + 11 + 13 * k + 2 then 100 else if i = 9 then σ 9 + billS σ k else if i = 0 + 11 + 13 * k + 8 then σ (0 + 11 + 13 * k + 8) + billS σ k else if i = 0 + 11 + 13 * k + 12 then σ (0 + 11 + 13 * k + 4) else if i = 0 + 11 + 13 * k + 11 then σ (0 + 11 + 13 * k + 3) else σ i := by
  have a4 : vsA σ k (0 + 11 + 13 * k + 4) = σ (0 + 11 + 13 * k + 4) := up_n (by omega)
  have b8 : vsB σ k (0 + 11 + 13 * k + 8) = σ (0 + 11 + 13 * k + 8) := (up_n (by omega)).trans (up_n (by omega))
  have c9 : vsC σ k 9 = σ 9 := (up_n (by omega)).trans ((up_n (by omega)).trans (up_n (by omega)))
  have e10 : vsE σ k (0 + 11 + 13 * k + 10) = σ (0 + 11 + 13 * k + 10) := (up_n (by omega)).trans ((up_n (by omega)).trans ((up_n (by omega)).trans ((up_n (by omega)).trans ((up_n (by omega)).trans (up_n (by omega))))))
  unfold vsG
  rw [e10]
  unfold vsE vsD
  rw [c9]
  unfold vsC
  rw [b8]
  unfold vsB
  rw [a4]
  unfold vsA up
  rfl
theorem vsF_at {σ : Int → Int} {k : Int} (hk : 0 ≤ k) (i : Int) : vsF σ k i = if σ (0 + 11 + 13 * k + 7) = 1 ∧ i = 0 + 11 + 13 * k + 7 then 0 else if σ (0 + 11 + 13 * k + 7) = 1 ∧ i = 0 + 11 + 13 * k + 6 then σ 10 + 1 else if σ (0 + 11 + 13 * k + 7) = 1 ∧ i = 10 then σ 10 + 1 else vsG σ k i := by
  have g7 := vsG_7 (σ := σ) hk
  have g10 : vsG σ k 10 = σ 10 := by rw [vsG_at hk, if_neg (by omega), if_neg (by omega), if_neg (by omega), if_neg (by omega), if_neg (by omega), if_neg (by omega), if_neg (by omega)]
  have h10 : vsH σ k 10 = σ 10 + 1 := by unfold vsH; rw [up_s, g10]
  unfold vsF
  rw [g7]
  by_cases h : σ (0 + 11 + 13 * k + 7) = 1
  · rw [if_pos h, h10]
    unfold vsH
    rw [g10]
    unfold up
    simp only [h, true_and]
  · rw [if_neg h]
    simp only [h, false_and, if_false]
theorem vsF_lo {σ : Int → Int} {k i : Int} (hk : 0 ≤ k) (h9 : i ≠ 9) (hA : i ≠ 10) (hi : i < 11 + 13 * k + 2 ∨ 11 + 13 * k + 13 ≤ i) : vsF σ k i = σ i := by
  rw [vsF_at hk, if_neg (by omega), if_neg (by omega), if_neg (by omega), vsG_at hk, if_neg (by omega), if_neg (by omega), if_neg (by omega), if_neg (by omega), if_neg (by omega), if_neg (by omega), if_neg (by omega)]
theorem vsF_10 {σ : Int → Int} {k : Int} (hk : 0 ≤ k) : vsF σ k 10 = if σ (0 + 11 + 13 * k + 7) = 1 then σ 10 + 1 else σ 10 := by
  rw [vsF_at hk, if_neg (by omega), if_neg (by omega)]
  by_cases h : σ (0 + 11 + 13 * k + 7) = 1
  · rw [if_pos ⟨h, rfl⟩, if_pos h]
  · rw [if_neg (fun q => h q.1), if_neg h, vsG_at hk, if_neg (by omega), if_neg (by omega), if_neg (by omega), if_neg (by omega), if_neg (by omega), if_neg (by omega), if_neg (by omega)]
/-- a visited meter, field by field -/
theorem vsF_m {σ : Int → Int} {k j : Int} (hk : 0 ≤ k) (hj : 0 ≤ j ∧ j < 13) : vsF σ k (11 + 13 * k + j) = if j = 7 then (if σ (11 + 13 * k + 7) = 1 then 0 else σ (11 + 13 * k + 7)) else if j = 6 then (if σ (11 + 13 * k + 7) = 1 then σ 10 + 1 else σ (11 + 13 * k + 6)) else if j = 10 then σ (11 + 13 * k + 10) + 1 else if j = 9 then 0 else if j = 2 then 100 else if j = 8 then σ (11 + 13 * k + 8) + billS σ k else if j = 12 then σ (11 + 13 * k + 4) else if j = 11 then σ (11 + 13 * k + 3) else σ (11 + 13 * k + j) := by
  have z : (0 : Int) + 11 = 11 := rfl
  rw [vsF_at hk, vsG_at hk, z]
  by_cases hb : σ (11 + 13 * k + 7) = 1
  · by_cases j7 : j = 7
    · rw [if_pos ⟨hb, by omega⟩, if_pos j7, if_pos hb]
    · rw [if_neg (by omega), if_neg j7]
      by_cases j6 : j = 6
      · rw [if_pos ⟨hb, by omega⟩, if_pos j6, if_pos hb]
      · rw [if_neg (by omega), if_neg j6, if_neg (by omega)]
        by_cases j10 : j = 10
        · rw [if_pos (by omega), if_pos j10]
        · rw [if_neg (by omega), if_neg j10]
          by_cases j9 : j = 9
          · rw [if_pos (by omega), if_pos j9]
          · rw [if_neg (by omega), if_neg j9]
            by_cases j2 : j = 2
            · rw [if_pos (by omega), if_pos j2]
            · rw [if_neg (by omega), if_neg j2, if_neg (by omega)]
              by_cases j8 : j = 8
              · rw [if_pos (by omega), if_pos j8]
              · rw [if_neg (by omega), if_neg j8]
                by_cases j12 : j = 12
                · rw [if_pos (by omega), if_pos j12]
                · rw [if_neg (by omega), if_neg j12]
                  by_cases j11 : j = 11
                  · rw [if_pos (by omega), if_pos j11]
                  · rw [if_neg (by omega), if_neg j11]
  · rw [if_neg (fun q => hb q.1), if_neg (fun q => hb q.1), if_neg (fun q => hb q.1)]
    by_cases j7 : j = 7
    · subst j7
      rw [if_pos rfl, if_neg hb, if_neg (by omega), if_neg (by omega), if_neg (by omega), if_neg (by omega), if_neg (by omega), if_neg (by omega), if_neg (by omega)]
    · rw [if_neg j7]
      by_cases j6 : j = 6
      · subst j6
        rw [if_pos rfl, if_neg hb, if_neg (by omega), if_neg (by omega), if_neg (by omega), if_neg (by omega), if_neg (by omega), if_neg (by omega), if_neg (by omega)]
      · rw [if_neg j6]
        by_cases j10 : j = 10
        · rw [if_pos (by omega), if_pos j10]
        · rw [if_neg (by omega), if_neg j10]
          by_cases j9 : j = 9
          · rw [if_pos (by omega), if_pos j9]
          · rw [if_neg (by omega), if_neg j9]
            by_cases j2 : j = 2
            · rw [if_pos (by omega), if_pos j2]
            · rw [if_neg (by omega), if_neg j2, if_neg (by omega)]
              by_cases j8 : j = 8
              · rw [if_pos (by omega), if_pos j8]
              · rw [if_neg (by omega), if_neg j8]
                by_cases j12 : j = 12
                · rw [if_pos (by omega), if_pos j12]
                · rw [if_neg (by omega), if_neg j12]
                  by_cases j11 : j = 11
                  · rw [if_pos (by omega), if_pos j11]
                  · rw [if_neg (by omega), if_neg j11]
theorem fOK_vs {N : Int} {σ : Int → Int} {k : Int} (h : fOK N σ) (hk : 0 ≤ k ∧ k < σ 7) : fOK (N + 1) (vsF σ k) := by
  have h7 := h.1.1.1
  have hA := h.2.2.2.2.1
  have lo := fun (i : Int) (h9 : i ≠ 9) (hA : i ≠ 10) (hi : i < 11 + 13 * k + 2 ∨ 11 + 13 * k + 13 ≤ i) => vsF_lo (σ := σ) hk.1 h9 hA hi
  have e7 := lo 7 (by omega) (by omega) (by omega)
  have e10 := vsF_10 (σ := σ) hk.1
  have r10 : σ 10 ≤ vsF σ k 10 ∧ vsF σ k 10 ≤ σ 10 + 1 := by rw [e10]; split <;> omega
  refine fOK_of h (lOK_of h.1.1 e7 (lo 8 (by omega) (by omega) (by omega)) (fun i a b => ?_) (fun j a b => lo _ (by omega) (by omega) (by omega))) (fun i a b => lo i (by omega) (by omega) (by omega)) (lo 6 (by omega) (by omega) (by omega)) (by omega) r10.1 (fun q => by rw [lo 11 (by omega) (by omega) (by omega)]; exact h.2.2.2.2.2.1 (by omega)) (fun j a b => ?_)
  · by_cases hi : i = k
    · subst hi
      exact lo _ (by omega) (by omega) (by omega)
    · exact lo _ (by omega) (by omega) (by omega)
  · rw [e7] at b
    by_cases hj : j = k
    · right
      subst hj
      have hd := dOK_0 (h.1.2.2 j a b)
      obtain ⟨k1, k2, k3, k4, k5⟩ := h.2.2.2.2.2.2 j a b
      have m := fun (t : Int) (ht : 0 ≤ t ∧ t < 13) => vsF_m (σ := σ) (k := j) (j := t) a ht
      refine ⟨dOK_of0 ?_, ?_⟩
      · rw [m 1 (by decide), m 2 (by decide), m 9 (by decide), m 7 (by decide)]
        simp
        refine ⟨hd.1, ?_⟩
        have := hd.2.2.2
        split <;> omega
      · unfold kOK
        rw [m 11 (by decide), m 3 (by decide), m 12 (by decide), m 4 (by decide), m 5 (by decide), m 6 (by decide), lo 6 (by omega) (by omega) (by omega)]
        simp
        refine ⟨by omega, by omega, by omega, by omega, ?_⟩
        rw [show (0 : Int) + 11 = 11 from rfl] at e10
        rw [e10]
        split <;> omega
    · left
      exact ⟨b, fun t t0 t1 => lo _ (by omega) (by omega) (by omega)⟩
/-! minutes and the bounds -/
def kOT (σ : Int → Int) (k T S : Int) : Prop := (0 ≤ σ (11 + 13 * k + 11) ∧ σ (11 + 13 * k + 11) ≤ σ (11 + 13 * k + 3)) ∧ (0 ≤ σ (11 + 13 * k + 12) ∧ σ (11 + 13 * k + 12) ≤ σ (11 + 13 * k + 4)) ∧ σ (11 + 13 * k + 3) + σ (11 + 13 * k + 4) ≤ 13 * T ∧ (0 ≤ σ (11 + 13 * k + 5) ∧ σ (11 + 13 * k + 5) ≤ 48000 * T) ∧ (0 ≤ σ (11 + 13 * k + 6) ∧ σ (11 + 13 * k + 6) ≤ S)
theorem goesS_13 {σ : Int → Int} {q k pw : Int} (hs : sOK σ q) (hd : dOK σ q k) (hp : 0 ≤ pw ∧ pw ≤ 48000) : 0 ≤ goesS σ q k pw ∧ goesS σ q k pw < 83999 := by
  obtain ⟨⟨s1, s2⟩, ⟨s3, s4⟩, s5, ⟨s6, s7⟩, s8, s9⟩ := hs
  obtain ⟨⟨d1, d2⟩, ⟨d3, d4⟩, ⟨d5, d6⟩, d7⟩ := hd
  have hm : 0 ≤ pw * σ (q + 11 + 13 * k + 2) ∧ pw * σ (q + 11 + 13 * k + 2) ≤ 48000 * 160 := ⟨Int.mul_nonneg hp.1 (by omega), Int.mul_le_mul hp.2 d4 (by omega) (by omega)⟩
  unfold goesS
  split
  · split <;> omega
  · split
    · omega
    · split
      · omega
      · split
        · omega
        · split <;> omega
theorem pOneP_rng {σ : Int → Int} {q k : Int} (hL : lOK σ) (hs : sOK σ q) (hd : dOK σ q k) (hq : q = 0 ∨ q = 138) (hk : 0 ≤ k) : 0 ≤ pOneP σ q k ∧ pOneP σ q k < 83999 := goesS_13 (sOK_up hs (by omega)) (dOK_up hd (by omega)) (pwr_rng hL k)
theorem pOne_hi {σ : Int → Int} {q k i : Int} (h : i ≠ q + 11 + 13 * k + 2 ∧ i ≠ q + 11 + 13 * k + 9) : pOne σ q k i = pOneC σ q k i := by
  have hD : pOneD σ q k i = pOneC σ q k i := up_n (by omega)
  unfold pOne
  split
  · exact hD
  · unfold pOneE
    rw [up_n (by omega), up_n (by omega)]
    exact hD
theorem pOneB_6 {σ : Int → Int} {q k : Int} (hk : 0 ≤ k) : pOneB σ q k (q + 6) = σ (q + 6) := (up_n (by omega)).trans (up_n (by omega))
theorem pOne_3 {σ : Int → Int} {q k : Int} (hk : 0 ≤ k) : pOne σ q k (q + 11 + 13 * k + 3) = σ (q + 11 + 13 * k + 3) + (if 1320 ≤ σ (q + 6) % 1440 ∨ σ (q + 6) % 1440 < 360 then 0 else pOneP σ q k / 6000) := by
  rw [pOne_hi (by omega)]
  have e : ∀ i : Int, i ≠ q + 11 + 13 * k + 1 → i ≠ q + 11 + 13 * k + 5 → pOneB σ q k i = σ i := fun i h1 h5 => (up_n h1).trans (up_n h5)
  unfold pOneC pOneI
  rw [pOneB_6 hk]
  split
  · rw [up_n (by omega), e _ (by omega) (by omega), Int.add_zero]
  · rw [up_s, e _ (by omega) (by omega)]
theorem pOne_4 {σ : Int → Int} {q k : Int} (hk : 0 ≤ k) : pOne σ q k (q + 11 + 13 * k + 4) = σ (q + 11 + 13 * k + 4) + (if 1320 ≤ σ (q + 6) % 1440 ∨ σ (q + 6) % 1440 < 360 then pOneP σ q k / 6000 else 0) := by
  rw [pOne_hi (by omega)]
  have e : ∀ i : Int, i ≠ q + 11 + 13 * k + 1 → i ≠ q + 11 + 13 * k + 5 → pOneB σ q k i = σ i := fun i h1 h5 => (up_n h1).trans (up_n h5)
  unfold pOneC pOneI
  rw [pOneB_6 hk]
  split
  · rw [up_s, e _ (by omega) (by omega)]
  · rw [up_n (by omega), e _ (by omega) (by omega), Int.add_zero]
theorem pOne_5 {σ : Int → Int} {q k : Int} (hk : 0 ≤ k) : pOne σ q k (q + 11 + 13 * k + 5) = σ (q + 11 + 13 * k + 5) + pwr σ k := by
  have hI : q + 11 + 13 * k + 5 ≠ pOneI σ q k := by unfold pOneI; split <;> omega
  rw [pOne_hi (by omega)]
  unfold pOneC
  rw [up_n hI]
  unfold pOneB
  rw [up_n (by omega)]
  exact up_s _ _ _
theorem kOT_pOne {σ : Int → Int} {k T S : Int} (h : gOK σ 0) (hk : 0 ≤ k ∧ k < σ 7) (ho : kOT σ k T S) : kOT (pOne σ 0 k) k (T + 1) S := by
  have hp := pOneP_rng (q := 0) h.1 h.2.1 (h.2.2 k hk.1 hk.2) (Or.inl rfl) hk.1
  have hw := pwr_rng h.1 k
  have e3 := pOne_3 (σ := σ) (q := 0) hk.1
  have e4 := pOne_4 (σ := σ) (q := 0) hk.1
  have e5 := pOne_5 (σ := σ) (q := 0) hk.1
  rw [show (0 : Int) + 11 = 11 from rfl] at e3 e4 e5
  obtain ⟨k1, k2, k3, k4, k5⟩ := ho
  unfold kOT
  rw [e3, e4, e5, pOne_n (i := 11 + 13 * k + 11) (by omega), pOne_n (i := 11 + 13 * k + 12) (by omega), pOne_n (i := 11 + 13 * k + 6) (by omega)]
  refine ⟨?_, ?_, ?_, by omega, k5⟩
  · split <;> omega
  · split <;> omega
  · split <;> omega
theorem kOT_n {σ : Int → Int} {k j T S : Int} (hne : j ≠ k) (ho : kOT σ j T S) : kOT (pOne σ 0 k) j T S := by
  unfold kOT
  rw [pOne_n (i := 11 + 13 * j + 11) (by omega), pOne_n (i := 11 + 13 * j + 12) (by omega), pOne_n (i := 11 + 13 * j + 6) (by omega), pOne_n (i := 11 + 13 * j + 3) (by omega), pOne_n (i := 11 + 13 * j + 4) (by omega), pOne_n (i := 11 + 13 * j + 5) (by omega)]
  exact ho
theorem pRow_lo {σ : Int → Int} {i : Int} (h : i < 12) : ∀ n : Nat, pRow σ 0 n i = σ i := by
  intro n
  induction n with
  | zero => rfl
  | succ n ih =>
    show pOne (pRow σ 0 n) 0 n i = σ i
    rw [pOne_n (by omega)]
    exact ih
theorem pRow_inv {N : Int} {σ : Int → Int} (h : fOK N σ) : ∀ n : Nat, (n : Int) ≤ σ 7 → gOK (pRow σ 0 n) 0 ∧ ∀ k : Int, 0 ≤ k → k < σ 7 → kOT (pRow σ 0 n) k (if k < n then σ 6 + 1 else σ 6) (σ 10) := by
  intro n
  induction n with
  | zero =>
    intro _
    refine ⟨h.1, fun k a b => ?_⟩
    rw [if_neg (by omega)]
    exact h.2.2.2.2.2.2 k a b
  | succ n ih =>
    intro hn
    obtain ⟨g, m⟩ := ih (by omega)
    have e7 := pRow_lo (σ := σ) (i := 7) (by decide) n
    refine ⟨gOK_pOne g (Or.inl rfl) (by omega), fun k a b => ?_⟩
    have mk := m k a b
    show kOT (pOne (pRow σ 0 n) 0 n) k _ _
    by_cases hk : k = n
    · subst hk
      rw [if_neg (by omega)] at mk
      rw [if_pos (by omega)]
      exact kOT_pOne g (by omega) mk
    · have e : (k < (n : Int)) = (k < ((n + 1 : Nat) : Int)) := propext (by omega)
      rw [show (if k < ((n + 1 : Nat) : Int) then σ 6 + 1 else σ 6) = (if k < (n : Int) then σ 6 + 1 else σ 6) from by simp only [e]]
      exact kOT_n hk mk
theorem fOK_pMin {N : Int} {σ : Int → Int} (h : fOK N σ) (ht : σ 6 < 99999) : fOK N (pMin σ 0) := by
  have h7 := h.1.1.1
  have h6 := fOK_6 h
  obtain ⟨g, m⟩ := pRow_inv h (σ 7).toNat (by omega)
  have lo := fun (i : Int) (hi : i < 12) => pRow_lo (σ := σ) hi (σ 7).toNat
  have e6 : pRow σ 0 (σ 7).toNat (0 + 6) = σ 6 := lo 6 (by decide)
  have es : pMin σ 0 = up (pRow σ 0 (σ 7).toNat) 6 (σ 6 + 1) := by unfold pMin; rw [e6]; rfl
  have e7 : pMin σ 0 7 = σ 7 := by rw [es, up_n (by decide)]; exact lo 7 (by decide)
  rw [es] at *
  have hi := fun (i : Int) (h1 : i ≠ 6) => up_n (G := pRow σ 0 (σ 7).toNat) (i := 6) (v := σ 6 + 1) (k := i) h1
  refine ⟨gOK_time (q := 0) g (Or.inl rfl) (by omega), by rw [up_s]; omega, by rw [hi 4 (by decide), lo 4 (by decide)]; exact h.2.2.1, by rw [hi 5 (by decide), lo 5 (by decide)]; exact h.2.2.2.1, by rw [hi 10 (by decide), lo 10 (by decide)]; exact h.2.2.2.2.1, fun q => by rw [hi 11 (by decide), lo 11 (by decide)]; exact h.2.2.2.2.2.1 (by omega), fun k a b => ?_⟩
  have mk := m k a (by omega)
  rw [if_pos (by omega)] at mk
  unfold kOK
  rw [hi (11 + 13 * k + 11) (by omega), hi (11 + 13 * k + 3) (by omega), hi (11 + 13 * k + 12) (by omega), hi (11 + 13 * k + 4) (by omega), hi (11 + 13 * k + 5) (by omega), hi (11 + 13 * k + 6) (by omega), up_s, hi 10 (by decide), lo 10 (by decide)]
  exact mk
theorem pMin_6 {σ : Int → Int} : pMin σ 0 6 = σ 6 + 1 := by
  have e6 : pRow σ 0 (σ 7).toNat (0 + 6) = σ 6 := pRow_lo (by decide) _
  unfold pMin
  rw [e6]
  exact up_s _ _ _
theorem fOK_pMins {N : Int} {σ : Int → Int} (h : fOK N σ) : ∀ n : Nat, σ 6 + n ≤ 99999 → fOK N (pMins σ 0 n) ∧ pMins σ 0 n 6 = σ 6 + n := by
  intro n
  induction n with
  | zero => intro _; exact ⟨h, (Int.add_zero _).symm⟩
  | succ n ih =>
    intro hn
    obtain ⟨a, b⟩ := ih (by omega)
    refine ⟨fOK_pMin a (by omega), ?_⟩
    show pMin (pMins σ 0 n) 0 6 = _
    rw [pMin_6, b]
    omega
theorem fOK_set {N : Int} {σ : Int → Int} {k v : Int} (h : fOK N σ) (hs : setOK k v) : fOK N (up σ k v) := by
  obtain ⟨⟨a, b⟩, c, d⟩ := hs
  have lo := fun (i : Int) (hi : 5 < i) => up_n (G := σ) (i := k) (v := v) (k := i) (by omega)
  obtain ⟨⟨g1, g2, g3⟩, f6, f4, f5, fA, f11, fm⟩ := h
  obtain ⟨s0, s1, s2, s3, s6⟩ := g2
  rw [show (0 : Int) + 0 = 0 from rfl] at s0
  rw [show (0 : Int) + 1 = 1 from rfl] at s1
  rw [show (0 : Int) + 2 = 2 from rfl] at s2
  rw [show (0 : Int) + 3 = 3 from rfl] at s3
  unfold loS at c
  unfold hiS at d
  refine ⟨⟨lOK_of g1 (lo 7 (by decide)) (lo 8 (by decide)) (fun i a b => lo _ (by omega)) (fun j a b => lo _ (by omega)), ?_, fun j a b => ?_⟩, by rw [lo 6 (by decide)]; exact f6, ?_, ?_, by rw [lo 10 (by decide)]; exact fA, fun q => by rw [lo 7 (by decide)] at q; rw [lo 11 (by decide)]; exact f11 q, fun j a b => ?_⟩
  · unfold sOK
    rw [show (0 : Int) + 0 = 0 from rfl, show (0 : Int) + 1 = 1 from rfl, show (0 : Int) + 2 = 2 from rfl, show (0 : Int) + 3 = 3 from rfl, show (0 : Int) + 6 = 6 from rfl, lo 6 (by decide)]
    refine ⟨?_, ?_, ?_, ?_, s6⟩
    · by_cases e : k = 0
      · subst e; rw [up_s]; simp at c d; omega
      · rw [up_n (by omega)]; exact s0
    · by_cases e : k = 1
      · subst e; rw [up_s]; simp at c d; omega
      · rw [up_n (by omega)]; exact s1
    · by_cases e : k = 2
      · subst e; rw [up_s]; simp at c d; omega
      · rw [up_n (by omega)]; exact s2
    · by_cases e : k = 3
      · subst e; rw [up_s]; simp at c d; omega
      · rw [up_n (by omega)]; exact s3
  · rw [lo 7 (by decide)] at b
    have hd := dOK_0 (g3 j a b)
    apply dOK_of0
    rw [lo (11 + 13 * j + 1) (by omega), lo (11 + 13 * j + 2) (by omega), lo (11 + 13 * j + 9) (by omega), lo (11 + 13 * j + 7) (by omega)]
    exact hd
  · by_cases e : k = 4
    · subst e; rw [up_s]; simp at c d; omega
    · rw [up_n (by omega)]; exact f4
  · by_cases e : k = 5
    · subst e; rw [up_s]; simp at c d; omega
    · rw [up_n (by omega)]; exact f5
  · rw [lo 7 (by decide)] at b
    unfold kOK
    rw [lo (11 + 13 * j + 11) (by omega), lo (11 + 13 * j + 3) (by omega), lo (11 + 13 * j + 12) (by omega), lo (11 + 13 * j + 4) (by omega), lo (11 + 13 * j + 5) (by omega), lo (11 + 13 * j + 6) (by omega), lo 6 (by decide), lo 10 (by decide)]
    exact fm j a b
theorem fOK_dos {N : Int} {σ pd : Int → Int} {ln q : Int} (h : fOK N σ) (h0 : 0 ≤ q) (hw : whN σ pd ln q = 0) : fOK (N + 1) (dosS σ pd ln q) := by
  have h7 := h.1.1.1
  have h8 := h.1.1.2.1
  have ha1 := numA_rng pd ln (q + 1) (by omega)
  unfold whN at hw
  unfold dosS
  by_cases k1 : cdS pd ln q = 109
  · rw [if_pos k1] at hw ⊢
    have := wnM_0 hw h7
    exact fOK_com h this.1 this.2
  · rw [if_neg k1] at hw ⊢
    by_cases k2 : cdS pd ln q = 108
    · rw [if_pos k2] at hw ⊢
      exact fOK_mono (fOK_ld h (wnL_0 hw h8)) (by omega)
    · rw [if_neg k2] at hw ⊢
      by_cases k3 : cdS pd ln q = 115
      · rw [if_pos k3] at hw ⊢
        have hw2 : 0 ≤ numA pd ln (q + 1) ∧ numA pd ln (q + 1) < σ 8 := by split at hw <;> first | assumption | omega
        exact fOK_mono (fOK_tn h hw2) (by omega)
      · rw [if_neg k3] at hw ⊢
        by_cases k4 : cdS pd ln q = 116
        · rw [if_pos k4] at hw ⊢
          have hw2 := wnP_0 hw
          exact fOK_mono (fOK_pMins h _ (by omega)).1 (by omega)
        · rw [if_neg k4] at hw ⊢
          by_cases k5 : cdS pd ln q = 98
          · rw [if_pos k5] at hw ⊢
            exact fOK_mono (fOK_tp h (wnT_0 hw).1) (by omega)
          · rw [if_neg k5] at hw ⊢
            have hw2 : 0 ≤ dgS pd ln (q + 1) ∧ dgS pd ln (q + 1) < σ 7 := by split at hw <;> first | assumption | omega
            exact fOK_vs h hw2
theorem flt_go {pd : Int → Int} {ln p : Int} {f : Nat} (h1 : ¬ ordE pd ln p < 0) (h2 : ¬ ordE pd ln p = ln) (h3 : cdS pd ln (ordE pd ln p) = 59) : flt pd ln (f + 1) p = flt pd ln f (ordE pd ln p + 1) := by
  show (if ordE pd ln p < 0 then -1 - ordE pd ln p else if ordE pd ln p = ln then -6 else if cdS pd ln (ordE pd ln p) = 59 then flt pd ln f (ordE pd ln p + 1) else ordE pd ln p) = _
  rw [if_neg h1, if_neg h2, if_pos h3]
theorem whN_rng (σ pd : Int → Int) (ln q : Int) : -5 ≤ whN σ pd ln q ∧ whN σ pd ln q ≤ 0 := by
  have h1 := wnM_rng σ (if dgS pd ln (q + 1) < 0 then 0 else dgS pd ln (q + 1))
  have h2 := wnL_rng σ (dgS pd ln (q + 1)) (numA pd ln (q + 3))
  have h3 := wnP_rng σ (numA pd ln (q + 1))
  have h4 := wnT_rng σ (dgS pd ln (q + 1))
  unfold whN
  split
  · omega
  · split
    · omega
    · split
      · split <;> omega
      · split
        · omega
        · split
          · omega
          · split <;> omega
