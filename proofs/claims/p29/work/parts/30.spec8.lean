/-! the Pad's answers -/
def sgA (pd : Int → Int) (ln k : Int) : Int := if 0 ≤ k ∧ k < ln then pd k else -1
def cnv (pd : Int → Int) (ln fr : Int) : Nat → Int
  | 0 => 0
  | n + 1 => cnv pd ln fr n * 10 + sgA pd ln (fr + n) - 48
def numK (pd : Int → Int) (ln v j : Int) : Int → Int := fun i => if ln + j ≤ i ∧ i < ln + ndg v then 48 + v / 10 ^ (ndg v - 1 - (i - ln).toNat) % 10 else pd i
theorem numK_all (pd : Int → Int) (ln v : Int) : numK pd ln v (ndg v) = pd := by
  funext i
  exact if_neg (by omega)
theorem numK_0 (pd : Int → Int) (ln v : Int) : numK pd ln v 0 = numW pd ln v := by
  funext i
  unfold numK numW
  rw [Int.add_zero]
theorem numK_step {pd : Int → Int} {ln v i w : Int} {g : Nat} (hi : i = ln + g) (hj : g < ndg v) (hw : w = 48 + v / 10 ^ (ndg v - 1 - g) % 10) : up (numK pd ln v ((g : Int) + 1)) i w = numK pd ln v g := by
  subst hi; subst hw
  funext x
  unfold up numK
  by_cases e : x = ln + g
  · subst e
    rw [if_pos rfl, if_pos (by omega), show (ln + (g : Int) - ln).toNat = g by omega]
  · rw [if_neg e]
    by_cases q : ln + (g : Int) + 1 ≤ x ∧ x < ln + ndg v
    · rw [if_pos (by omega), if_pos (by omega)]
    · rw [if_neg (by omega), if_neg (by omega)]
/-! the characters of a number -/
theorem usr_0 {x k : Int} (hx : -9223372036854775808 ≤ x ∧ x < 9223372036854775808) (hk : 0 ≤ k ∧ k ≤ 7) : usr x k = 0 ↔ ∀ i : Int, k ≤ i → i ≤ 7 → byS x i = 0 := by
  have h0 : byS x 0 = x % 256 := by unfold byS; simp
  have h1 : byS x 1 = x / 256 % 256 := by unfold byS; simp
  have h2 : byS x 2 = x / 65536 % 256 := by unfold byS; simp
  have h3 : byS x 3 = x / 16777216 % 256 := by unfold byS; simp
  have h4 : byS x 4 = x / 4294967296 % 256 := by unfold byS; simp
  have h5 : byS x 5 = x / 1099511627776 % 256 := by unfold byS; simp
  have h6 : byS x 6 = x / 281474976710656 % 256 := by unfold byS; simp
  have h7 : byS x 7 = x / 72057594037927936 % 256 := by unfold byS; simp
  have key : ∀ i : Int, k ≤ i → i ≤ 7 → i = 0 ∨ i = 1 ∨ i = 2 ∨ i = 3 ∨ i = 4 ∨ i = 5 ∨ i = 6 ∨ i = 7 := fun i a b => by omega
  constructor
  · intro h i a b
    unfold usr at h
    rcases (show k = 0 ∨ k = 1 ∨ k = 2 ∨ k = 3 ∨ k = 4 ∨ k = 5 ∨ k = 6 ∨ k = 7 by omega) with e | e | e | e | e | e | e | e <;> subst e <;> simp at h <;> rcases key i a b with q | q | q | q | q | q | q | q <;> subst q <;> omega
  · intro h
    unfold usr
    rcases (show k = 0 ∨ k = 1 ∨ k = 2 ∨ k = 3 ∨ k = 4 ∨ k = 5 ∨ k = 6 ∨ k = 7 by omega) with e | e | e | e | e | e | e | e <;> subst e
    · have g0 := h 0 (by decide) (by decide); have g1 := h 1 (by decide) (by decide); have g2 := h 2 (by decide) (by decide); have g3 := h 3 (by decide) (by decide); have g4 := h 4 (by decide) (by decide); have g5 := h 5 (by decide) (by decide); have g6 := h 6 (by decide) (by decide); have g7 := h 7 (by decide) (by decide)
      simp; omega
    · have g1 := h 1 (by decide) (by decide); have g2 := h 2 (by decide) (by decide); have g3 := h 3 (by decide) (by decide); have g4 := h 4 (by decide) (by decide); have g5 := h 5 (by decide) (by decide); have g6 := h 6 (by decide) (by decide); have g7 := h 7 (by decide) (by decide)
      simp; omega
    · have g2 := h 2 (by decide) (by decide); have g3 := h 3 (by decide) (by decide); have g4 := h 4 (by decide) (by decide); have g5 := h 5 (by decide) (by decide); have g6 := h 6 (by decide) (by decide); have g7 := h 7 (by decide) (by decide)
      simp; omega
    · have g3 := h 3 (by decide) (by decide); have g4 := h 4 (by decide) (by decide); have g5 := h 5 (by decide) (by decide); have g6 := h 6 (by decide) (by decide); have g7 := h 7 (by decide) (by decide)
      simp; omega
    · have g4 := h 4 (by decide) (by decide); have g5 := h 5 (by decide) (by decide); have g6 := h 6 (by decide) (by decide); have g7 := h 7 (by decide) (by decide)
      simp; omega
    · have g5 := h 5 (by decide) (by decide); have g6 := h 6 (by decide) (by decide); have g7 := h 7 (by decide) (by decide)
      simp; omega
    · have g6 := h 6 (by decide) (by decide); have g7 := h 7 (by decide) (by decide)
      simp; omega
    · have g7 := h 7 (by decide) (by decide)
      simp; omega
theorem ptE_up (x : Int) {n : Nat} (h : ptE x n = 1) : ∀ k : Nat, ptE x (n + k) = 1 := by
  intro k
  induction k with
  | zero => exact h
  | succ k ih => exact if_pos (Or.inl ih)
theorem ptR_up (x : Int) {n : Nat} (h : ptR x n ≠ 1) : ∀ k : Nat, ptR x (n + k) ≠ 1 := by
  intro k
  induction k with
  | zero => exact h
  | succ k ih =>
    show (if ptR x (n + k) = 1 ∧ _ then (1 : Int) else 0) ≠ 1
    rw [if_neg (fun q => ih q.1)]
    decide
/-- a wrong character, or one behind the end -/
theorem ptR_bad (x : Int) {n : Nat} (h0 : ptE x n = 0) (h : ¬ byS x n = 0) (h2 : ¬ (33 ≤ byS x n ∧ byS x n ≤ 126)) (hn : n < 8) : ptR x 8 ≠ 1 := by
  have hE : ptE x (n + 1) = 0 := if_neg (by rw [h0]; omega)
  have : ptR x (n + 1) ≠ 1 := by
    show (if ptR x n = 1 ∧ _ then (1 : Int) else 0) ≠ 1
    rw [if_neg (fun q => h2 (q.2.2 (by rw [hE]; decide)))]
    decide
  have := ptR_up x this (8 - (n + 1))
  rwa [show n + 1 + (8 - (n + 1)) = 8 by omega] at this
theorem ptR_late (x : Int) {n k : Nat} (h1 : ptE x (n + 1) = 1) (h : ¬ byS x k = 0) (hk : n < k ∧ k < 8) : ptR x 8 ≠ 1 := by
  have hE : ptE x (k + 1) = 1 := by
    have := ptE_up x h1 (k + 1 - (n + 1))
    rwa [show n + 1 + (k + 1 - (n + 1)) = k + 1 by omega] at this
  have : ptR x (k + 1) ≠ 1 := by
    show (if ptR x k = 1 ∧ _ then (1 : Int) else 0) ≠ 1
    rw [if_neg (fun q => h (q.2.1 hE))]
    decide
  have := ptR_up x this (8 - (k + 1))
  rwa [show k + 1 + (8 - (k + 1)) = 8 by omega] at this
theorem pt_rest (x : Int) {n : Nat} (hR : ptR x n = 1) (hM : ptM x n = n) (h : ∀ i : Int, (n : Int) ≤ i → i ≤ 7 → byS x i = 0) : ∀ k : Nat, n + k ≤ 8 → ptR x (n + k) = 1 ∧ ptM x (n + k) = n := by
  intro k
  induction k with
  | zero => intro _; exact ⟨hR, hM⟩
  | succ k ih =>
    intro hk
    obtain ⟨a, b⟩ := ih (by omega)
    have hz := h ((n + k : Nat) : Int) (by omega) (by omega)
    have hE : ptE x (n + k + 1) = 1 := if_pos (Or.inr hz)
    refine ⟨?_, ?_⟩
    · show (if ptR x (n + k) = 1 ∧ _ then (1 : Int) else 0) = 1
      rw [if_pos ⟨a, fun _ => hz, fun q => absurd hE q⟩]
    · show ptM x (n + k) + (if ptE x (n + k + 1) = 1 then 0 else 1) = _
      rw [if_pos hE, b, Int.add_zero]
theorem pt_good (x : Int) {n : Nat} (h0 : ptE x n = 0) (hR : ptR x n = 1) (hM : ptM x n = n) (h : 33 ≤ byS x n ∧ byS x n ≤ 126) : ptE x (n + 1) = 0 ∧ ptR x (n + 1) = 1 ∧ ptM x (n + 1) = (n : Int) + 1 := by
  have hE : ptE x (n + 1) = 0 := if_neg (by rw [h0]; omega)
  refine ⟨hE, ?_, ?_⟩
  · show (if ptR x n = 1 ∧ (ptE x (n + 1) = 1 → byS x n = 0) ∧ (ptE x (n + 1) ≠ 1 → 33 ≤ byS x n ∧ byS x n ≤ 126) then (1 : Int) else 0) = 1
    exact if_pos ⟨hR, fun q => absurd (hE.symm.trans q) (by decide), fun _ => h⟩
  · show ptM x n + (if ptE x (n + 1) = 1 then 0 else 1) = _
    rw [if_neg (by rw [hE]; decide), hM]
def sgN (x : Int) : Int := if ptR x 8 = 1 then ptM x 8 else 0
theorem sg_8 {x : Int} (h : ptE x 8 = 0 ∧ ptR x 8 = 1 ∧ ptM x 8 = ((8 : Nat) : Int)) : sgN x = 8 := by
  unfold sgN
  rw [if_pos h.2.1, h.2.2]
  rfl
theorem sg_end {x : Int} {n : Nat} (hx : -9223372036854775808 ≤ x ∧ x < 9223372036854775808) (h : ptE x n = 0 ∧ ptR x n = 1 ∧ ptM x n = (n : Int)) (hn : n < 8) (hu : usr x n = 0) : sgN x = n := by
  obtain ⟨a, b⟩ := pt_rest x h.2.1 h.2.2 ((usr_0 hx ⟨by omega, by omega⟩).mp hu) (8 - n) (by omega)
  rw [show n + (8 - n) = 8 by omega] at a b
  unfold sgN
  rw [if_pos a, b]
theorem sg_late {x : Int} {n : Nat} (hx : -9223372036854775808 ≤ x ∧ x < 9223372036854775808) (hn : n < 8) (h0 : byS x n = 0) (hu : ¬ usr x n = 0) : sgN x = 0 := by
  have hE : ptE x (n + 1) = 1 := if_pos (Or.inr h0)
  have : ∃ i : Int, (n : Int) ≤ i ∧ i ≤ 7 ∧ ¬ byS x i = 0 := Classical.byContradiction fun q => hu ((usr_0 hx ⟨by omega, by omega⟩).mpr fun i a b => Classical.byContradiction fun w => q ⟨i, a, b, w⟩)
  obtain ⟨i, h1, h2, h3⟩ := this
  have hi : ((i.toNat : Nat) : Int) = i := by omega
  have hne : i ≠ n := fun q => h3 (by rw [q]; exact h0)
  unfold sgN
  rw [if_neg (ptR_late x hE (k := i.toNat) (by rw [hi]; exact h3) (by omega))]
theorem sg_bad {x : Int} {n : Nat} (h : ptE x n = 0 ∧ ptR x n = 1 ∧ ptM x n = (n : Int)) (h1 : ¬ byS x n = 0) (h2 : ¬ (33 ≤ byS x n ∧ byS x n ≤ 126)) (hn : n < 8) : sgN x = 0 := by
  unfold sgN
  rw [if_neg (ptR_bad x h.1 h1 h2 hn)]
theorem sgN_rng (x : Int) : 0 ≤ sgN x ∧ sgN x ≤ 8 := by
  have := ptM_rng x 8
  unfold sgN
  split <;> omega
