/-! what passes() needs: minutes of one meter -/
/-- the way of a disc in n minutes -/
def wyS (f st : Int → Int) (pw t : Int) : Nat → Int
  | 0 => 0
  | n + 1 => wyS f st pw t n + wayS (miN f st pw t n) st 1 pw
section MI
variable {f st : Int → Int} {pw t : Int}
theorem mi_s {n : Nat} : miN f st pw t (n + 1) = rnM (miN f st pw t n) st 1 pw (ngt (t + n)) := rfl
theorem mi_T (n : Nat) : miN f st pw t n 3 + miN f st pw t n 4 = f 3 + f 4 + miT f st pw t n := by
  induction n with
  | zero => exact (Int.add_zero _).symm
  | succ n ih =>
    rw [mi_s, rnM_x (by decide), rnM_x (by decide), rn5_3, rn5_4]
    show _ = f 3 + f 4 + (miT f st pw t n + rnT (miN f st pw t n) st 1 pw)
    split <;> omega
theorem mi_3 (hf : rOK f) (hs : qOK st) (hp : 0 ≤ pw ∧ pw ≤ 48000) (n : Nat) : f 3 ≤ miN f st pw t n 3 ∧ f 4 ≤ miN f st pw t n 4 := by
  induction n with
  | zero => exact ⟨Int.le_refl _, Int.le_refl _⟩
  | succ n ih =>
    have h := rnT_rng (rOK_miN (t := t) hf hs hp n) hs (n := 1) (by decide) hp
    rw [mi_s, rnM_x (by decide), rnM_x (by decide), rn5_3, rn5_4]
    split <;> omega
theorem mi_5 (n : Nat) : miN f st pw t n 5 = f 5 + pw * n := by
  induction n with
  | zero => show f 5 = f 5 + pw * ((0 : Nat) : Int); rw [show ((0 : Nat) : Int) = 0 from rfl, Int.mul_zero, Int.add_zero]
  | succ n ih =>
    rw [mi_s, rnM_x (by decide), rn5_5, ih, Int.mul_one, show ((n + 1 : Nat) : Int) = (n : Int) + 1 by omega, Int.mul_add, Int.mul_one]
    omega
theorem mi_7 (n : Nat) : miN f st pw t n 7 = f 7 := miN_hi (Or.inr (Or.inr (Or.inl rfl))) n
theorem mi_wy (n : Nat) : wyS f st pw t n = 6000 * miT f st pw t n + miN f st pw t n 1 - f 1 := by
  induction n with
  | zero => show (0 : Int) = 6000 * 0 + f 1 - f 1; omega
  | succ n ih =>
    show wyS f st pw t n + wayS (miN f st pw t n) st 1 pw = 6000 * (miT f st pw t n + rnT (miN f st pw t n) st 1 pw) + miN f st pw t (n + 1) 1 - f 1
    rw [mi_s, rnM_x (by decide), rn5_1, rnT_e]
    omega
theorem way_nn {g : Int → Int} (hf : rOK g) (hs : qOK st) (hp : 0 ≤ pw ∧ pw ≤ 48000) : 0 ≤ wayS g st 1 pw := (wayS_rng hf hs (by decide) hp).1
theorem wy_nn (hf : rOK f) (hs : qOK st) (hp : 0 ≤ pw ∧ pw ≤ 48000) (n : Nat) : 0 ≤ wyS f st pw t n := by
  induction n with
  | zero => exact Int.le_refl _
  | succ n ih =>
    have := way_nn (rOK_miN (t := t) hf hs hp n) hs hp
    show 0 ≤ wyS f st pw t n + wayS (miN f st pw t n) st 1 pw
    omega
/-- a disc that stands -/
theorem wy_still (hf : rOK f) (hs : qOK st) (hp : 0 ≤ pw ∧ pw ≤ 48000) (h : (0 < pw ∧ pw ≤ st 0) ∨ (pw = 0 ∧ (f 7 = 1 ∨ st 1 = 0))) (n : Nat) : wyS f st pw t n = 0 := by
  induction n with
  | zero => rfl
  | succ n ih =>
    have hr := rOK_miN (t := t) hf hs hp n
    have h0 : wayS (miN f st pw t n) st 1 pw = 0 := by
      have h1 := hr.1
      unfold wayS
      rw [mi_7]
      rcases h with h | ⟨h, h2⟩
      · rw [if_neg (by omega), if_pos (Or.inl h.1)]
      · have s0 := hs.1
        rw [if_neg (by omega)]
        rcases h2 with h2 | h2
        · rw [if_pos (Or.inr h2)]
        · split
          · rfl
          · rw [h2]
            split
            · rfl
            · split <;> omega
    show wyS f st pw t n + wayS (miN f st pw t n) st 1 pw = 0
    omega
/-- a disc's step at a speed -/
def stpS (f : Int → Int) (pw sp : Int) : Int := if f 7 = 1 then pw * sp / 100 / 2 else pw * sp / 100
theorem stpS_mono (hp : 0 ≤ pw) {a b : Int} (h : a ≤ b) : stpS f pw a ≤ stpS f pw b := by
  have h1 : pw * a ≤ pw * b := Int.mul_le_mul_of_nonneg_left h hp
  unfold stpS
  split <;> omega
theorem way_go (h : st 0 < pw) (n : Nat) : wayS (miN f st pw t n) st 1 pw = stpS f pw (miN f st pw t n 2) := by
  unfold wayS stpS
  rw [mi_7, if_pos h, Int.one_mul]
theorem mi_2 (hf : rOK f) (hs : qOK st) (hp : 0 ≤ pw ∧ pw ≤ 48000) (n : Nat) : f 2 ≤ miN f st pw t n 2 := by
  induction n with
  | zero => exact Int.le_refl _
  | succ n ih =>
    have hr := (rOK_miN (t := t) hf hs hp n).2.1
    rw [mi_s, rnM_2]
    split
    · exact ih
    · omega
theorem wy_go (hf : rOK f) (hs : qOK st) (hp : 0 ≤ pw ∧ pw ≤ 48000) (h : st 0 < pw) (n : Nat) : stpS f pw (f 2) * n ≤ wyS f st pw t n := by
  induction n with
  | zero => show stpS f pw (f 2) * ((0 : Nat) : Int) ≤ 0; rw [show ((0 : Nat) : Int) = 0 from rfl, Int.mul_zero]; exact Int.le_refl _
  | succ n ih =>
    show stpS f pw (f 2) * ((n + 1 : Nat) : Int) ≤ wyS f st pw t n + wayS (miN f st pw t n) st 1 pw
    have h2 := stpS_mono (f := f) hp.1 (mi_2 (t := t) hf hs hp n)
    rw [way_go h, show ((n + 1 : Nat) : Int) = (n : Int) + 1 by omega, Int.mul_add, Int.mul_one]
    omega
theorem wy_even (h : st 0 < pw) : ∀ n : Nat, (∀ i : Nat, i < n → miN f st pw t i 2 = f 2) → wyS f st pw t n = stpS f pw (f 2) * n := by
  intro n
  induction n with
  | zero => intro _; show 0 = stpS f pw (f 2) * ((0 : Nat) : Int); rw [show ((0 : Nat) : Int) = 0 from rfl, Int.mul_zero]
  | succ n ih =>
    intro hq
    show wyS f st pw t n + wayS (miN f st pw t n) st 1 pw = _
    rw [ih (fun i hi => hq i (by omega)), way_go h, hq n (by omega), show ((n + 1 : Nat) : Int) = (n : Int) + 1 by omega, Int.mul_add, Int.mul_one]
theorem mi_160 (hf : rOK f) (h : f 2 = 160) (n : Nat) : miN f st pw t n 2 = f 2 := by
  induction n with
  | zero => rfl
  | succ n ih =>
    rw [mi_s, rnM_2]
    split
    · exact ih
    · omega
theorem mi_slow (n : Nat) (hn : (n : Int) < max 1 (st 3 - f 9)) : miN f st pw t n 2 = f 2 ∧ (miN f st pw t n 9 = f 9 + n) := by
  induction n with
  | zero => exact ⟨rfl, (Int.add_zero _).symm⟩
  | succ n ih =>
    obtain ⟨h1, h2⟩ := ih (by omega)
    rw [mi_s, rnM_2, rnM_9, if_pos (by omega), if_pos (by omega), h1, h2]
    exact ⟨rfl, by omega⟩
/-- a disc that creeps -/
theorem way_creep (hs : qOK st) (hp : pw = 0) (h7 : f 7 ≠ 1) (n : Nat) : wayS (miN f st pw t n) st 1 pw = if st 2 = 0 then st 1 else if miN f st pw t n 1 = 0 then 0 else min (st 1) (6000 - miN f st pw t n 1) := by
  have s0 := hs.1
  unfold wayS
  rw [mi_7, if_neg (by omega), if_neg (by omega), Int.one_mul]
theorem wy_creep (hf : rOK f) (hs : qOK st) (hp : pw = 0) (h7 : f 7 ≠ 1) (n : Nat) : wyS f st pw t n ≤ st 1 * n ∧ (st 2 = 0 → wyS f st pw t n = st 1 * n) := by
  induction n with
  | zero => 
    show (0 : Int) ≤ st 1 * ((0 : Nat) : Int) ∧ (st 2 = 0 → (0 : Int) = st 1 * ((0 : Nat) : Int))
    rw [show ((0 : Nat) : Int) = 0 from rfl, Int.mul_zero]
    exact ⟨Int.le_refl _, fun _ => rfl⟩
  | succ n ih =>
    have s1 := hs.2.1
    have hc := way_creep (t := t) hs hp h7 n
    show wyS f st pw t n + wayS (miN f st pw t n) st 1 pw ≤ st 1 * ((n + 1 : Nat) : Int) ∧ (st 2 = 0 → wyS f st pw t n + wayS (miN f st pw t n) st 1 pw = st 1 * ((n + 1 : Nat) : Int))
    rw [show ((n + 1 : Nat) : Int) = (n : Int) + 1 by omega, Int.mul_add, Int.mul_one, hc]
    refine ⟨?_, fun q => ?_⟩
    · split
      · omega
      · split <;> omega
    · rw [if_pos q, ih.2 q]
theorem wy_hole (hf : rOK f) (hs : qOK st) (hp : pw = 0) (h7 : f 7 ≠ 1) (h2 : ¬ st 2 = 0) (n : Nat) : (miN f st pw t n 1 = 0 ∧ ((0 < f 1 ∧ wyS f st pw t n = 6000 - f 1) ∨ (wyS f st pw t n = 0 ∧ f 1 = 0))) ∨ (0 < f 1 ∧ 0 < miN f st pw t n 1 ∧ miN f st pw t n 1 < 6000 ∧ miN f st pw t n 1 = f 1 + wyS f st pw t n) := by
  induction n with
  | zero =>
    show (f 1 = 0 ∧ ((0 < f 1 ∧ (0 : Int) = 6000 - f 1) ∨ ((0 : Int) = 0 ∧ f 1 = 0))) ∨ (0 < f 1 ∧ 0 < f 1 ∧ f 1 < 6000 ∧ f 1 = f 1 + (0 : Int))
    have := hf.1
    omega
  | succ n ih =>
    have s1 := hs.2.1
    have hc := way_creep (t := t) hs hp h7 n
    have hf1 := hf.1
    show (miN f st pw t (n + 1) 1 = 0 ∧ ((0 < f 1 ∧ wyS f st pw t n + wayS (miN f st pw t n) st 1 pw = 6000 - f 1) ∨ (wyS f st pw t n + wayS (miN f st pw t n) st 1 pw = 0 ∧ f 1 = 0))) ∨ (0 < f 1 ∧ 0 < miN f st pw t (n + 1) 1 ∧ miN f st pw t (n + 1) 1 < 6000 ∧ miN f st pw t (n + 1) 1 = f 1 + (wyS f st pw t n + wayS (miN f st pw t n) st 1 pw))
    rw [mi_s, rnM_x (by decide), rn5_1, hc, if_neg h2]
    rcases ih with ⟨a1, a2⟩ | ⟨a1, a2, a3, a4⟩
    · rw [if_pos a1, a1]
      left
      exact ⟨rfl, by omega⟩
    · rw [if_neg (by omega)]
      omega
/-- the first minute with a turn -/
theorem mt_spec : ∀ (g n : Nat), (mtR f st pw t g n = -6 ∧ ∀ i : Nat, n ≤ i → i < n + g → ¬ 0 < rnT (miN f st pw t i) st 1 pw) ∨ (∃ r : Nat, n ≤ r ∧ r < n + g ∧ mtR f st pw t g n = (r : Int) + 1 ∧ 0 < rnT (miN f st pw t r) st 1 pw ∧ ∀ i : Nat, n ≤ i → i < r → ¬ 0 < rnT (miN f st pw t i) st 1 pw) := by
  intro g
  induction g with
  | zero => intro n; exact Or.inl ⟨rfl, fun i h1 h2 => by omega⟩
  | succ g ih =>
    intro n
    by_cases h : 0 < rnT (miN f st pw t n) st 1 pw
    · exact Or.inr ⟨n, Nat.le_refl _, by omega, mtR_hit h, h, fun i h1 h2 => by omega⟩
    · have e : mtR f st pw t (g + 1) (n : Int) = mtR f st pw t g ((n + 1 : Nat) : Int) := mtR_go h
      rcases ih (n + 1) with ⟨h1, h2⟩ | ⟨r, h1, h2, h3, h4, h5⟩
      · refine Or.inl ⟨e.trans h1, fun i a b => ?_⟩
        by_cases q : i = n
        · rw [q]; exact h
        · exact h2 i (by omega) (by omega)
      · refine Or.inr ⟨r, by omega, by omega, e.trans h3, h4, fun i a b => ?_⟩
        by_cases q : i = n
        · rw [q]; exact h
        · exact h5 i (by omega) b
theorem miT_0 (n : Nat) (h : ∀ i : Nat, i < n → ¬ 0 < rnT (miN f st pw t i) st 1 pw) (hf : rOK f) (hs : qOK st) (hp : 0 ≤ pw ∧ pw ≤ 48000) : miT f st pw t n = 0 := by
  induction n with
  | zero => rfl
  | succ n ih =>
    have h1 := h n (by omega)
    have h2 := rnT_rng (rOK_miN (t := t) hf hs hp n) hs (n := 1) (by decide) hp
    show miT f st pw t n + rnT (miN f st pw t n) st 1 pw = 0
    rw [ih (fun i hi => h i (by omega))]
    omega
theorem miT_pos {n r : Nat} (hr : r < n) (h : 0 < rnT (miN f st pw t r) st 1 pw) (hf : rOK f) (hs : qOK st) (hp : 0 ≤ pw ∧ pw ≤ 48000) : 0 < miT f st pw t n := by
  induction n with
  | zero => omega
  | succ n ih =>
    have h2 := rnT_rng (rOK_miN (t := t) hf hs hp n) hs (n := 1) (by decide) hp
    have h3 := miT_rng (t := t) hf hs hp n
    show 0 < miT f st pw t n + rnT (miN f st pw t n) st 1 pw
    by_cases q : r = n
    · subst q; omega
    · have := ih (by omega)
      omega
theorem mt_iff (hf : rOK f) (hs : qOK st) (hp : 0 ≤ pw ∧ pw ≤ 48000) {w : Int} (hw : 1 ≤ w ∧ w ≤ 3000) : (0 < miT f st pw t w.toNat ↔ (0 < mtR f st pw t 3000 0 ∧ mtR f st pw t 3000 0 ≤ w)) ∧ -6 ≤ mtR f st pw t 3000 0 ∧ mtR f st pw t 3000 0 ≤ 3000 := by
  rcases mt_spec (f := f) (st := st) (pw := pw) (t := t) 3000 0 with ⟨h1, h2⟩ | ⟨r, h1, h2, h3, h4, h5⟩
  · have h1 : mtR f st pw t 3000 0 = -6 := h1
    have := miT_0 (t := t) w.toNat (fun i hi => h2 i (by omega) (by omega)) hf hs hp
    omega
  · have h3 : mtR f st pw t 3000 0 = (r : Int) + 1 := h3
    rw [h3]
    refine ⟨⟨fun q => ?_, fun q => miT_pos (by omega) h4 hf hs hp⟩, by omega, by omega⟩
    by_cases z : (r : Int) + 1 ≤ w
    · exact ⟨by omega, z⟩
    · have := miT_0 (t := t) w.toNat (fun i hi => h5 i (by omega) (by omega)) hf hs hp
      omega
end MI
theorem sm_ge {g : Nat → Int} : ∀ n : Nat, (∀ k : Nat, k < n → 0 ≤ g k) → 0 ≤ sm g n ∧ ∀ k : Nat, k < n → g k ≤ sm g n := by
  intro n
  induction n with
  | zero => intro _; exact ⟨Int.le_refl _, fun k h => by omega⟩
  | succ n ih =>
    intro h
    obtain ⟨h1, h2⟩ := ih (fun k hk => h k (by omega))
    have h3 := h n (by omega)
    refine ⟨?_, fun k hk => ?_⟩
    · show 0 ≤ sm g n + g n
      omega
    · show g k ≤ sm g n + g n
      by_cases q : k = n
      · rw [q]; omega
      · have := h2 k (by omega)
        omega
/-- what minutes make of a state -/
theorem el_all {N : Int} {τ : Int → Int} {w : Int} (h : GD N τ) (hw : wnP τ w = 0) : GD N (elF τ w) ∧ elF τ w 6 = τ 6 + w ∧ elF τ w 7 = τ 7 ∧ (∀ i : Int, 0 ≤ i → i ≤ 5 → elF τ w i = τ i) ∧ (∀ k j : Int, 0 ≤ k → k < τ 7 → 1 ≤ j → j < 13 → elF τ w (11 + 13 * k + j) = miN (mrec τ k) (sset τ) (cpow τ k) (τ 6) w.toNat j) ∧ pasA τ w = sm (fun k : Nat => miT (mrec τ k) (sset τ) (cpow τ k) (τ 6) w.toNat) (τ 7).toNat := by
  have hw0 := wnP_0 hw
  have hg := gd_g h
  have h7 := gd_7 h
  have q := elR_rec hg w.toNat (τ 7).toNat (by omega)
  obtain ⟨q1, q2, q3, q4⟩ := q
  have e6 : elF τ w 6 = τ 6 + w := by
    unfold elF
    rw [up_s, q1 6 (Or.inl (by decide))]
  have e7 : elF τ w 7 = τ 7 := (up_n (by decide)).trans (q1 7 (Or.inl (by decide)))
  have eL : ∀ i : Int, 0 ≤ i → i ≤ 5 → elF τ w i = τ i := fun i a b => (up_n (by omega)).trans (q1 i (Or.inl (by omega)))
  have eM : ∀ k j : Int, 0 ≤ k → k < τ 7 → 1 ≤ j → j < 13 → elF τ w (11 + 13 * k + j) = miN (mrec τ k) (sset τ) (cpow τ k) (τ 6) w.toNat j := fun k j a b c d => (up_n (by omega)).trans (q2 k a (by omega) j c d)
  refine ⟨⟨h.1, ?_, fun k a b => ?_⟩, e6, e7, eL, eM, q4⟩
  · obtain ⟨-, ⟨σ, hS⟩, -⟩ := h
    exact ⟨_, SM_pass hS ⟨by omega, by rw [← hS.2.2.lo (i := 6) (by decide) (by decide)]; omega⟩⟩
  · rw [e7] at b
    rw [eM k 6 a b (by decide) (by decide), miN_hi (Or.inr (Or.inl rfl))]
    exact h.2.2 k a b
