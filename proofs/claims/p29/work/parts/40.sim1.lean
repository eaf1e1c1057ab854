/-! the reference's minutes, meter by meter, are the class's -/
def qrec (σ : Int → Int) (q k : Int) : Int → Int := fun j => σ (q + 11 + 13 * k + j)
def qst (σ : Int → Int) (q : Int) : Int → Int := fun i => σ (q + i)
/-- two records alike but for place 0 (who feeds); two rows of settings -/
def RE (f g : Int → Int) : Prop := ∀ j : Int, 1 ≤ j → j < 13 → g j = f j
def SE (f g : Int → Int) : Prop := ∀ j : Int, 0 ≤ j → j ≤ 3 → g j = f j
theorem RE_rfl (f : Int → Int) : RE f f := fun _ _ _ => rfl
theorem SE_rfl (f : Int → Int) : SE f f := fun _ _ _ => rfl
theorem RE.trans {f g h : Int → Int} (h1 : RE f g) (h2 : RE g h) : RE f h := fun j a b => (h2 j a b).trans (h1 j a b)
theorem RE.symm {f g : Int → Int} (h : RE f g) : RE g f := fun j a b => (h j a b).symm
theorem SE.symm {f g : Int → Int} (h : SE f g) : SE g f := fun j a b => (h j a b).symm
theorem way_congr {f g st st2 : Int → Int} {n pw : Int} (h : RE f g) (hs : SE st st2) : wayS g st2 n pw = wayS f st n pw := by
  unfold wayS
  rw [h 1 (by decide) (by decide), h 2 (by decide) (by decide), h 7 (by decide) (by decide), hs 0 (by decide) (by decide), hs 1 (by decide) (by decide), hs 2 (by decide) (by decide)]
theorem rnT_congr {f g st st2 : Int → Int} {n pw : Int} (h : RE f g) (hs : SE st st2) : rnT g st2 n pw = rnT f st n pw := by
  rw [rnT_e, rnT_e, way_congr h hs, h 1 (by decide) (by decide)]
theorem rnM_congr {f g st st2 : Int → Int} {n pw nt : Int} (h : RE f g) (hs : SE st st2) : RE (rnM f st n pw nt) (rnM g st2 n pw nt) := by
  intro i h0 h1
  by_cases i2 : i = 2
  · subst i2; rw [rnM_2, rnM_2, h 2 (by decide) (by decide), h 9 (by decide) (by decide), hs 3 (by decide) (by decide)]
  · by_cases i9 : i = 9
    · subst i9; rw [rnM_9, rnM_9, h 9 (by decide) (by decide), hs 3 (by decide) (by decide)]
    · by_cases i1 : i = 1
      · subst i1; rw [rnM_x (by decide), rnM_x (by decide), rn5_1, rn5_1, way_congr h hs, h 1 (by decide) (by decide)]
      · by_cases i5 : i = 5
        · subst i5; rw [rnM_x (by decide), rnM_x (by decide), rn5_5, rn5_5, h 5 (by decide) (by decide)]
        · by_cases i3 : i = 3
          · subst i3; rw [rnM_x (by decide), rnM_x (by decide), rn5_3, rn5_3, rnT_congr h hs, h 3 (by decide) (by decide)]
          · by_cases i4 : i = 4
            · subst i4; rw [rnM_x (by decide), rnM_x (by decide), rn5_4, rn5_4, rnT_congr h hs, h 4 (by decide) (by decide)]
            · rw [rnM_n ⟨i1, i2, i3, i4, i5, i9⟩, rnM_n ⟨i1, i2, i3, i4, i5, i9⟩, h i h0 h1]
theorem miN_congr {f g st st2 : Int → Int} {pw t : Int} (h : RE f g) (hs : SE st st2) : ∀ n : Nat, RE (miN f st pw t n) (miN g st2 pw t n) ∧ miT g st2 pw t n = miT f st pw t n := by
  intro n
  induction n with
  | zero => exact ⟨h, rfl⟩
  | succ n ih =>
    refine ⟨rnM_congr ih.1 hs, ?_⟩
    show miT g st2 pw t n + rnT (miN g st2 pw t n) st2 1 pw = miT f st pw t n + rnT (miN f st pw t n) st 1 pw
    rw [ih.2, rnT_congr ih.1 hs]
/-! one minute of the reference -/
theorem pOneP_e {σ : Int → Int} {q k : Int} (hk : 0 ≤ k) (hq : q = 0 ∨ q = 138) : pOneP σ q k = qrec σ q k 1 + wayS (qrec σ q k) (qst σ q) 1 (pwr σ k) := by
  have e0 : pOneA σ q k (q + 0) = σ (q + 0) := up_n (by omega)
  have e1 : pOneA σ q k (q + 1) = σ (q + 1) := up_n (by omega)
  have e2 : pOneA σ q k (q + 2) = σ (q + 2) := up_n (by omega)
  have f1 : pOneA σ q k (q + 11 + 13 * k + 1) = σ (q + 11 + 13 * k + 1) := up_n (by omega)
  have f2 : pOneA σ q k (q + 11 + 13 * k + 2) = σ (q + 11 + 13 * k + 2) := up_n (by omega)
  have f7 : pOneA σ q k (q + 11 + 13 * k + 7) = σ (q + 11 + 13 * k + 7) := up_n (by omega)
  unfold pOneP goesS wayS qrec qst
  rw [e0, e1, e2, f1, f2, f7]
  generalize pwr σ k = pw
  by_cases c1 : σ (q + 0) < pw
  · rw [if_pos c1, if_pos c1]
    by_cases b : σ (q + 11 + 13 * k + 7) = 1
    · rw [if_pos b, if_pos b]; omega
    · rw [if_neg b, if_neg b]; omega
  · rw [if_neg c1, if_neg c1]
    by_cases c2 : 0 < pw ∨ σ (q + 11 + 13 * k + 7) = 1
    · rw [if_pos c2, if_pos c2]; omega
    · rw [if_neg c2, if_neg c2]
      by_cases c3 : σ (q + 2) = 0
      · rw [if_pos c3, if_pos c3]; omega
      · rw [if_neg c3, if_neg c3]
        by_cases c4 : σ (q + 11 + 13 * k + 1) = 0
        · rw [if_pos c4, if_pos c4]; omega
        · rw [if_neg c4, if_neg c4]
          split <;> omega
theorem pOne_T {σ : Int → Int} {q k : Int} (hk : 0 ≤ k) (hq : q = 0 ∨ q = 138) : pOneP σ q k / 6000 = rnT (qrec σ q k) (qst σ q) 1 (pwr σ k) := by rw [rnT_e, pOneP_e hk hq]
theorem pOne_rec {σ : Int → Int} {q k : Int} (hk : 0 ≤ k) (hq : q = 0 ∨ q = 138) (h2 : σ (q + 11 + 13 * k + 2) ≤ 160) : RE (rnM (qrec σ q k) (qst σ q) 1 (pwr σ k) (ngt (σ (q + 6)))) (qrec (pOne σ q k) q k) := by
  intro i h0 h1
  show pOne σ q k (q + 11 + 13 * k + i) = _
  by_cases i2 : i = 2
  · subst i2
    rw [rnM_2, pOne_2 hq hk]
    show _ = if σ (q + 11 + 13 * k + 9) + 1 < σ (q + 3) then σ (q + 11 + 13 * k + 2) else min 160 (σ (q + 11 + 13 * k + 2) + 1)
    split
    · rfl
    · split <;> omega
  · by_cases i9 : i = 9
    · subst i9
      rw [rnM_9, pOne_9 hq hk]
      rfl
    · by_cases i1 : i = 1
      · subst i1
        rw [rnM_x (by decide), rn5_1, pOne_1 hq hk, pOneP_e hk hq]
      · by_cases i5 : i = 5
        · subst i5
          rw [rnM_x (by decide), rn5_5, pOne_5 hk, Int.mul_one]
          rfl
        · by_cases i3 : i = 3
          · subst i3
            rw [rnM_x (by decide), rn5_3, pOne_3 hk, pOne_T hk hq]
            unfold ngt
            by_cases w : 1320 ≤ σ (q + 6) % 1440 ∨ σ (q + 6) % 1440 < 360
            · rw [if_pos w, if_pos w, if_pos rfl, Int.add_zero]; rfl
            · rw [if_neg w, if_neg w, if_neg (by decide)]; rfl
          · by_cases i4 : i = 4
            · subst i4
              rw [rnM_x (by decide), rn5_4, pOne_4 hk, pOne_T hk hq]
              unfold ngt
              by_cases w : 1320 ≤ σ (q + 6) % 1440 ∨ σ (q + 6) % 1440 < 360
              · rw [if_pos w, if_pos w, if_pos rfl]; rfl
              · rw [if_neg w, if_neg w, if_neg (by decide), Int.add_zero]; rfl
            · rw [rnM_n ⟨i1, i2, i3, i4, i5, i9⟩, pOne_n (by omega)]
              rfl
/-! what a meter's power hangs on -/
theorem climb_congr {σ τ : Int → Int} {o : Int} (ho : 0 ≤ o) (h : ∀ m : Int, 1 ≤ m → τ (11 + 13 * m) = σ (11 + 13 * m)) : ∀ (f : Nat) (k : Int), climb τ o f k = climb σ o f k := by
  intro f
  induction f with
  | zero => intro k; rfl
  | succ f ih =>
    intro k
    unfold climb
    split
    · rw [h k (by omega)]; exact ih _
    · rfl
theorem pwr_congr {σ τ : Int → Int} {o : Int} (ho : 0 ≤ o) (h8 : τ 8 = σ 8) (h : ∀ m : Int, 1 ≤ m → τ (11 + 13 * m) = σ (11 + 13 * m)) (hl : ∀ i : Int, 102 ≤ i → i < 102 + 3 * σ 8 → τ i = σ i) (h80 : 0 ≤ σ 8) : pwr τ o = pwr σ o := by
  have key : ∀ n : Nat, (n : Int) ≤ σ 8 → psum τ o n = psum σ o n := by
    intro n
    induction n with
    | zero => intro _; rfl
    | succ n ih =>
      intro hn
      unfold psum
      rw [ih (by omega), hl (102 + 3 * (n : Int) + 2) (by omega) (by omega), hl (102 + 3 * (n : Int) + 1) (by omega) (by omega), hl (102 + 3 * (n : Int)) (by omega) (by omega), climb_congr ho h]
  unfold pwr
  rw [h8]
  exact key _ (by omega)
def sm (g : Nat → Int) : Nat → Int
  | 0 => 0
  | n + 1 => sm g n + g n
theorem sm_congr {g g2 : Nat → Int} : ∀ n : Nat, (∀ k : Nat, k < n → g2 k = g k) → sm g2 n = sm g n := by
  intro n
  induction n with
  | zero => intro _; rfl
  | succ n ih =>
    intro h
    show sm g2 n + g2 n = sm g n + g n
    rw [ih (fun k hk => h k (by omega)), h n (by omega)]
theorem sm_add (g g2 : Nat → Int) : ∀ n : Nat, sm (fun k => g k + g2 k) n = sm g n + sm g2 n := by
  intro n
  induction n with
  | zero => rfl
  | succ n ih =>
    show sm (fun k => g k + g2 k) n + (g n + g2 n) = (sm g n + g n) + (sm g2 n + g2 n)
    rw [ih]; omega
/-! a row of meters -/
theorem mrec_q (σ : Int → Int) (k : Int) : qrec σ 0 k = mrec σ k := by
  funext j
  unfold qrec mrec
  rw [show (0 : Int) + 11 + 13 * k + j = 11 + 13 * k + j by omega]
theorem sset_q (σ : Int → Int) : SE (qst σ 0) (sset σ) := fun i h0 h1 => by
  unfold sset qst
  rw [if_pos (by omega), Int.zero_add]
theorem pRow_x {σ : Int → Int} {i : Int} (h : i < 12 ∨ 102 ≤ i ∨ ∃ m : Int, i = 11 + 13 * m) : ∀ n : Nat, n ≤ 7 → pRow σ 0 n i = σ i := by
  intro n
  induction n with
  | zero => intro _; rfl
  | succ n ih =>
    intro hn
    show pOne (pRow σ 0 n) 0 n i = σ i
    rw [pOne_n ?_, ih (by omega)]
    rcases h with h | h | ⟨m, h⟩ <;> omega
theorem pRow_pwr {σ : Int → Int} {o : Int} (ho : 0 ≤ o) (h8 : 0 ≤ σ 8) (n : Nat) (hn : n ≤ 7) : pwr (pRow σ 0 n) o = pwr σ o := pwr_congr ho (pRow_x (Or.inl (by decide)) n hn) (fun m _ => pRow_x (Or.inr (Or.inr ⟨m, rfl⟩)) n hn) (fun i h _ => pRow_x (Or.inr (Or.inl h)) n hn) h8
theorem pRow_rec {σ : Int → Int} (h : gOK σ 0) : ∀ n : Nat, (n : Int) ≤ σ 7 → (∀ k : Int, 0 ≤ k → k < n → RE (rnM (mrec σ k) (sset σ) 1 (pwr σ k) (ngt (σ 6))) (mrec (pRow σ 0 n) k)) ∧ (∀ k : Int, (n : Int) ≤ k → ∀ j : Int, 0 ≤ j → j < 13 → mrec (pRow σ 0 n) k j = mrec σ k j) ∧ tRow σ 0 n = sm (fun k : Nat => rnT (mrec σ k) (sset σ) 1 (pwr σ k)) n := by
  have h7 := h.1.1
  intro n
  induction n with
  | zero => intro _; exact ⟨fun k a b => by omega, fun k _ j _ _ => rfl, rfl⟩
  | succ n ih =>
    intro hn
    obtain ⟨a, b, c⟩ := ih (by omega)
    have hd := (dOK_0 (h.2.2 n (by omega) (by omega))).2.1.2
    have b2 : ∀ j : Int, 0 ≤ j → j < 13 → pRow σ 0 n (0 + 11 + 13 * (n : Int) + j) = mrec σ n j := fun j x y => by
      have := b n (Int.le_refl _) j x y
      rw [← this]
      unfold mrec
      rw [show (0 : Int) + 11 + 13 * (n : Int) + j = 11 + 13 * (n : Int) + j by omega]
    have hre : RE (mrec σ n) (qrec (pRow σ 0 n) 0 n) := fun j x y => b2 j (by omega) y
    have hse : SE (sset σ) (qst (pRow σ 0 n) 0) := fun i x y => by
      show pRow σ 0 n (0 + i) = sset σ i
      unfold sset
      rw [if_pos (by omega), Int.zero_add, pRow_x (Or.inl (by omega)) n (by omega)]
    have hp := pRow_pwr (σ := σ) (o := n) (by omega) h.1.2.1.1 n (by omega)
    have ht : pRow σ 0 n (0 + 6) = σ 6 := pRow_x (Or.inl (by decide)) n (by omega)
    refine ⟨fun k x y => ?_, fun k x j u v => ?_, ?_⟩
    · by_cases e : k = n
      · subst e
        have := pOne_rec (σ := pRow σ 0 n) (q := 0) (k := n) (by omega) (Or.inl rfl) (by rw [b2 2 (by decide) (by decide)]; exact hd)
        rw [hp, ht, mrec_q] at this
        rw [mrec_q] at hre this
        exact (rnM_congr hre hse).trans this
      · have := a k x (by omega)
        intro j u v
        rw [← this j u v]
        show pOne (pRow σ 0 n) 0 n (11 + 13 * k + j) = pRow σ 0 n (11 + 13 * k + j)
        exact pOne_n (by omega)
    · rw [← b k (by omega) j u v]
      show pOne (pRow σ 0 n) 0 n (11 + 13 * k + j) = pRow σ 0 n (11 + 13 * k + j)
      exact pOne_n (by omega)
    · show tRow σ 0 n + pOneP (pRow σ 0 n) 0 n / 6000 = sm _ n + rnT (mrec σ n) (sset σ) 1 (pwr σ n)
      rw [c, pOne_T (by omega) (Or.inl rfl), hp, rnT_congr hre hse]
theorem pMin_x {σ : Int → Int} {i : Int} (h7 : 0 ≤ σ 7 ∧ σ 7 ≤ 7) (h6 : i ≠ 6) (h : i < 12 ∨ 102 ≤ i ∨ ∃ m : Int, i = 11 + 13 * m) : pMin σ 0 i = σ i := (up_n (by omega)).trans (pRow_x h _ (by omega))
theorem pMins_x {N : Int} {σ : Int → Int} (h : fOK N σ) {i : Int} (h6 : i ≠ 6) (hi : i < 12 ∨ 102 ≤ i ∨ ∃ m : Int, i = 11 + 13 * m) : ∀ n : Nat, σ 6 + n ≤ 99999 → pMins σ 0 n i = σ i := by
  intro n
  induction n with
  | zero => intro _; rfl
  | succ n ih =>
    intro hn
    have := (fOK_pMins h n (by omega)).1.1.1.1
    exact (pMin_x this h6 hi).trans (ih (by omega))
/-- the minutes of the reference, meter by meter -/
theorem pMins_rec {N : Int} {σ : Int → Int} (h : fOK N σ) : ∀ n : Nat, σ 6 + n ≤ 99999 → (∀ k : Int, 0 ≤ k → k < σ 7 → RE (miN (mrec σ k) (sset σ) (pwr σ k) (σ 6) n) (mrec (pMins σ 0 n) k)) ∧ tMins σ 0 n = sm (fun k : Nat => miT (mrec σ k) (sset σ) (pwr σ k) (σ 6) n) (σ 7).toNat := by
  have h7 := h.1.1.1
  have h8 := h.1.1.2.1
  intro n
  induction n with
  | zero =>
    intro _
    refine ⟨fun k _ _ => RE_rfl _, ?_⟩
    have : ∀ m : Nat, sm (fun k : Nat => miT (mrec σ k) (sset σ) (pwr σ k) (σ 6) 0) m = 0 := by
      intro m
      induction m with
      | zero => rfl
      | succ m ih => show sm _ m + 0 = 0; rw [ih]; rfl
    exact (this _).symm
  | succ n ih =>
    intro hn
    obtain ⟨a, c⟩ := ih (by omega)
    obtain ⟨hf, e6⟩ := fOK_pMins h n (by omega)
    have e7 := pMins_x h (i := 7) (by decide) (Or.inl (by decide)) n (by omega)
    have hse : SE (sset σ) (sset (pMins σ 0 n)) := fun i x y => by
      unfold sset
      rw [if_pos (by omega), if_pos (by omega), pMins_x h (by omega) (Or.inl (by omega)) n (by omega)]
    have hp : ∀ o : Int, 0 ≤ o → pwr (pMins σ 0 n) o = pwr σ o := fun o ho => pwr_congr ho (pMins_x h (by decide) (Or.inl (by decide)) n (by omega)) (fun m hm => pMins_x h (by omega) (Or.inr (Or.inr ⟨m, rfl⟩)) n (by omega)) (fun i x _ => pMins_x h (by omega) (Or.inr (Or.inl x)) n (by omega)) h8.1
    obtain ⟨u, -, w⟩ := pRow_rec hf.1 (σ 7).toNat (by omega)
    refine ⟨fun k x y => ?_, ?_⟩
    · have h1 := u k x (by omega)
      rw [hp k x, e6] at h1
      refine (rnM_congr (a k x y) hse).trans (h1.trans fun j p q => ?_)
      show pMin (pMins σ 0 n) 0 (11 + 13 * k + j) = _
      unfold pMin
      rw [up_n (by omega), e7]
      rfl
    · show tMins σ 0 n + tRow (pMins σ 0 n) 0 (pMins σ 0 n 7).toNat = _
      rw [e7, w, c, ← sm_add]
      refine sm_congr _ fun k hk => ?_
      show miT (mrec σ k) (sset σ) (pwr σ k) (σ 6) n + rnT (mrec (pMins σ 0 n) k) (sset (pMins σ 0 n)) 1 (pwr (pMins σ 0 n) k) = miT (mrec σ k) (sset σ) (pwr σ k) (σ 6) n + rnT (miN (mrec σ k) (sset σ) (pwr σ k) (σ 6) n) (sset σ) 1 (pwr σ k)
      rw [hp k (by omega), rnT_congr (a k (by omega) (by omega)) hse]
