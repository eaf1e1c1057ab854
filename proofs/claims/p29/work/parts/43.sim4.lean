/-! minutes -/
theorem elR_rec {τ : Int → Int} (h : gOK τ 0) (n : Nat) : ∀ j : Nat, (j : Int) ≤ τ 7 → (∀ i : Int, (i < 12 ∨ 102 ≤ i ∨ ∃ m : Int, i = 11 + 13 * m) → elR τ n j i = τ i) ∧ (∀ k : Int, 0 ≤ k → k < j → RE (miN (mrec τ k) (sset τ) (cpow τ k) (τ 6) n) (mrec (elR τ n j) k)) ∧ (∀ k : Int, (j : Int) ≤ k → ∀ x : Int, 0 ≤ x → x < 13 → mrec (elR τ n j) k x = mrec τ k x) ∧ elT τ n j = sm (fun k : Nat => miT (mrec τ k) (sset τ) (cpow τ k) (τ 6) n) j := by
  have h7 := h.1.1
  have h8 := h.1.2.1
  intro j
  induction j with
  | zero => intro _; exact ⟨fun _ _ => rfl, fun k a b => by omega, fun k _ x _ _ => rfl, rfl⟩
  | succ j ih =>
    intro hj
    obtain ⟨a, b, c, d⟩ := ih (by omega)
    have hi := elR_inv h n j (by omega)
    have e7 := a 7 (Or.inl (by decide))
    have e6 := a 6 (Or.inl (by decide))
    have hs : sset (elR τ n j) = sset τ := sset_in (fun i q => a i (Or.inl (by omega)))
    have hp : cpow (elR τ n j) j = cpow τ j := by
      rw [cpow_eq hi.1.1 ⟨by omega, by rw [e7]; omega⟩, cpow_eq h.1 ⟨by omega, by omega⟩]
      exact pwr_congr (by omega) (a 8 (Or.inl (by decide))) (fun m _ => a _ (Or.inr (Or.inr ⟨m, rfl⟩))) (fun i x _ => a i (Or.inr (Or.inl x))) h8.1
    have hr : RE (mrec τ j) (mrec (elR τ n j) j) := fun x p q => c j (Int.le_refl _) x (by omega) q
    have hm := miN_congr (pw := cpow τ j) (t := τ 6) hr (SE_rfl (sset τ)) n
    refine ⟨fun i q => ?_, fun k x y => ?_, fun k x z u v => ?_, ?_⟩
    · show inM (elR τ n j) j _ i = τ i
      by_cases r : 11 + 13 * (j : Int) ≤ i ∧ i < 11 + 13 * (j : Int) + 13
      · have ei : i = 11 + 13 * (j : Int) + 0 := by
          rcases q with q | q | ⟨m, q⟩ <;> omega
        rw [ei, inM_in (by decide), miN_hi (Or.inl rfl)]
        show elR τ n j (11 + 13 * (j : Int) + 0) = τ (11 + 13 * (j : Int) + 0)
        exact a _ (Or.inr (Or.inr ⟨j, by omega⟩))
      · rw [inM_out (by omega)]
        exact a i q
    · by_cases e : k = j
      · subst e
        intro x p q
        show inM (elR τ n j) j _ (11 + 13 * (j : Int) + x) = _
        rw [inM_in (by omega), hs, hp, e6]
        exact hm.1 x p q
      · intro z p q
        rw [← b k x (by omega) z p q]
        exact inM_out (by omega)
    · rw [← c k (by omega) z u v]
      exact inM_out (by omega)
    · show elT τ n j + miT (mrec (elR τ n j) j) (sset (elR τ n j)) (cpow (elR τ n j) j) (elR τ n j 6) n = sm _ j + miT (mrec τ j) (sset τ) (cpow τ j) (τ 6) n
      rw [d, hs, hp, e6, hm.2]
theorem LE_pass {N : Int} {σ τ : Int → Int} (h : LE σ τ) (hF : fOK N σ) {w : Int} (hw : 0 ≤ w ∧ σ 6 + w ≤ 99999) : LE (pMins σ 0 w.toNat) (elF τ w) ∧ elT τ w.toNat (τ 7).toNat = tMins σ 0 w.toNat := by
  have hg := LE_gOK h hF.1
  have hL := hF.1.1
  have h7 := hL.1
  have h8 := hL.2.1
  have e7 := h.lo (i := 7) (by decide) (by decide)
  have e6 := h.lo (i := 6) (by decide) (by decide)
  obtain ⟨a, b, -, d⟩ := elR_rec hg w.toNat (τ 7).toNat (by omega)
  obtain ⟨p, q⟩ := pMins_rec hF w.toNat (by omega)
  obtain ⟨f1, f6⟩ := fOK_pMins hF w.toNat (by omega)
  have px := fun (i : Int) (hi : i ≠ 6) (hx : i < 12 ∨ 102 ≤ i ∨ ∃ m : Int, i = 11 + 13 * m) => pMins_x hF hi hx w.toNat (by omega)
  have mc := fun (k : Int) (hk : 0 ≤ k ∧ k < σ 7) => miN_congr (pw := pwr σ k) (t := σ 6) (h.re hk.1 hk.2) h.se w.toNat
  have el6 : elF τ w 6 = τ 6 + w := by unfold elF; rw [up_s, a 6 (Or.inl (by decide))]
  have eln : ∀ i : Int, i ≠ 6 → elF τ w i = elR τ w.toNat (τ 7).toNat i := fun i hi => up_n hi
  refine ⟨⟨fun i hi => ?_, fun z => ?_⟩, ?_⟩
  · unfold LIV at hi
    rw [px 7 (by decide) (Or.inl (by decide)), px 8 (by decide) (Or.inl (by decide))] at hi
    by_cases i6 : i = 6
    · rw [i6, el6, f6, e6]
      omega
    · rw [eln i i6]
      by_cases r : 12 ≤ i ∧ i < 11 + 13 * σ 7
      · obtain ⟨k, j, hk, hj, rfl⟩ : ∃ k j : Int, (0 ≤ k ∧ k < σ 7) ∧ (0 ≤ j ∧ j < 13) ∧ i = 11 + 13 * k + j := ⟨(i - 11) / 13, (i - 11) % 13, by omega, by omega, by omega⟩
        by_cases j0 : j = 0
        · subst j0
          rw [a _ (Or.inr (Or.inr ⟨k, by omega⟩)), px _ i6 (Or.inr (Or.inr ⟨k, by omega⟩))]
          exact h.me (by omega) (by omega)
        · have h1 := b k hk.1 (by omega) j (by omega) hj.2
          have h2 := p k hk.1 hk.2 j (by omega) hj.2
          have h3 := (mc k hk).1 j (by omega) hj.2
          rw [LE_cpow h hL hk, e6, h3] at h1
          exact h1.trans h2.symm
      · rw [a i (by omega), px i i6 (by omega)]
        exact h.1 i (by unfold LIV; omega)
  · rw [px 7 (by decide) (Or.inl (by decide))] at z
    rw [eln 11 (by decide), a 11 (Or.inl (by decide))]
    exact h.2 z
  · rw [d, q, e7]
    refine sm_congr _ fun k hk => ?_
    rw [LE_cpow h hL ⟨by omega, by omega⟩, e6]
    exact (mc k ⟨by omega, by omega⟩).2
/-! the sum of what was billed -/
theorem blC_congr {σ τ : Int → Int} : ∀ n : Nat, (∀ k : Nat, k < n → τ (11 + 13 * (k : Int) + 8) = σ (11 + 13 * (k : Int) + 8)) → blC τ n = blC σ n := by
  intro n
  induction n with
  | zero => intro _; rfl
  | succ n ih =>
    intro h
    show blC τ n + τ (11 + 13 * (n : Int) + 8) = blC σ n + σ (11 + 13 * (n : Int) + 8)
    rw [ih (fun k hk => h k (by omega)), h n (by omega)]
theorem blC_one {σ τ : Int → Int} {k : Int} {v : Int} (h : ∀ i : Nat, (i : Int) ≠ k → τ (11 + 13 * (i : Int) + 8) = σ (11 + 13 * (i : Int) + 8)) (hk : τ (11 + 13 * k + 8) = σ (11 + 13 * k + 8) + v) : ∀ n : Nat, 0 ≤ k → k < n → blC τ n = blC σ n + v := by
  intro n
  induction n with
  | zero => intro a b; omega
  | succ n ih =>
    intro a b
    show blC τ n + τ (11 + 13 * (n : Int) + 8) = blC σ n + σ (11 + 13 * (n : Int) + 8) + v
    by_cases e : k = n
    · subst e
      rw [blC_congr n (fun i hi => h i (by omega)), hk]
      omega
    · rw [ih a (by omega), h n (by omega)]
      omega
theorem BS_of {σ τ : Int → Int} (h : BS σ) (h7 : τ 7 = σ 7) (h9 : τ 9 = σ 9) (hb : ∀ k : Nat, (k : Int) < σ 7 → τ (11 + 13 * (k : Int) + 8) = σ (11 + 13 * (k : Int) + 8)) : BS τ := by
  unfold BS at *
  rw [h7, h9, h]
  exact (blC_congr _ (fun k hk => hb k (by omega))).symm
theorem BS_set {σ : Int → Int} {k v : Int} (h : BS σ) (hk : 0 ≤ k ∧ k ≤ 5) : BS (up σ k v) := BS_of h (up_n (by omega)) (up_n (by omega)) (fun i _ => up_n (by omega))
theorem BS_com {σ : Int → Int} {k : Int} (h : BS σ) (h7 : 0 ≤ σ 7) : BS (comF σ k) := by
  unfold BS at *
  rw [comF_7 h7, comF_lo h7 (by decide) (by decide) (by omega), h]
  obtain ⟨n, hn⟩ : ∃ n : Nat, σ 7 = n := ⟨(σ 7).toNat, by omega⟩
  rw [hn, show ((n : Int) + 1).toNat = n + 1 by omega, Int.toNat_natCast]
  show _ = blC (comF σ k) n + comF σ k (11 + 13 * (n : Int) + 8)
  rw [← hn, comF_new h7 (by decide), blC_congr (σ := σ) n (fun i hi => comF_lo h7 (by omega) (by omega) (by omega))]
  simp
theorem BS_ld {σ : Int → Int} {k w : Int} (h : BS σ) (h7 : 0 ≤ σ 7 ∧ σ 7 ≤ 7) (h8 : 0 ≤ σ 8) : BS (ldF σ k w) := BS_of h (ldF_lo h8 (by decide) (by omega)) (ldF_lo h8 (by decide) (by omega)) (fun i hi => ldF_lo h8 (by omega) (by omega))
theorem BS_tn {σ : Int → Int} {k : Int} (h : BS σ) (h7 : σ 7 ≤ 7) (hk : 0 ≤ k) : BS (tnF σ k) := BS_of h (up_n (by omega)) (up_n (by omega)) (fun i hi => up_n (by omega))
theorem BS_tp {σ : Int → Int} {k : Int} (h : BS σ) (hk : 0 ≤ k) : BS (tpF σ k) := BS_of h (up_n (by omega)) (up_n (by omega)) (fun i hi => up_n (by omega))
theorem BS_vs {σ : Int → Int} {k : Int} (h : BS σ) (hk : 0 ≤ k ∧ k < σ 7) : BS (vsF σ k) := by
  unfold BS at *
  have e9 : vsF σ k 9 = σ 9 + billS σ k := by
    rw [vsF_at hk.1, vsG_at hk.1]
    rw [if_neg (by omega), if_neg (by omega), if_neg (by omega), if_neg (by omega), if_neg (by omega), if_neg (by omega), if_pos rfl]
  rw [vsF_lo hk.1 (i := 7) (by decide) (by decide) (by omega), e9, h]
  refine (blC_one (k := k) (fun i hi => ?_) ?_ (σ 7).toNat hk.1 (by omega)).symm
  · by_cases q : (i : Int) < k
    · exact vsF_lo hk.1 (by omega) (by omega) (by omega)
    · exact vsF_lo hk.1 (by omega) (by omega) (by omega)
  · rw [vsF_m hk.1 (by decide)]
    simp
theorem BS_pass {N : Int} {σ : Int → Int} (h : BS σ) (hF : fOK N σ) (n : Nat) (hn : σ 6 + n ≤ 99999) : BS (pMins σ 0 n) := by
  refine BS_of h (pMins_x hF (by decide) (Or.inl (by decide)) n hn) (pMins_x hF (by decide) (Or.inl (by decide)) n hn) (fun k hk => ?_)
  have := (pMins_rec hF n hn).1 k (by omega) hk 8 (by decide) (by decide)
  rw [miN_hi (by decide)] at this
  exact this
