/-! what passes() asks, as it asks it -/
def wenA (τ : Int → Int) (k w : Int) : Int := wyS (mrec τ k) (sset τ) (cpow τ k) (τ 6) w.toNat
section PSS
variable {N : Int} {τ : Int → Int} {k w : Int}
theorem wt_0 : wtA τ k w 0 = miN (mrec τ k) (sset τ) (cpow τ k) (τ 6) w.toNat 3 - τ (11 + 13 * k + 3) := rfl
theorem wt_1 : wtA τ k w 1 = miN (mrec τ k) (sset τ) (cpow τ k) (τ 6) w.toNat 4 - τ (11 + 13 * k + 4) := rfl
theorem wt_T : wtA τ k w 0 + wtA τ k w 1 = miT (mrec τ k) (sset τ) (cpow τ k) (τ 6) w.toNat := by
  have h := mi_T (f := mrec τ k) (st := sset τ) (pw := cpow τ k) (t := τ 6) w.toNat
  have e3 : mrec τ k 3 = τ (11 + 13 * k + 3) := rfl
  have e4 : mrec τ k 4 = τ (11 + 13 * k + 4) := rfl
  rw [wt_0, wt_1]
  omega
theorem ps_el (hG : GD N τ) (hw0 : wnP τ w = 0) : GD N (elF τ w) ∧ elF τ w 6 = τ 6 + w ∧ elF τ w 7 = τ 7 ∧ trS (elF τ w) (elF τ w 7).toNat = trS τ (τ 7).toNat + pasA τ w ∧ elF τ w 0 = τ 0 ∧ elF τ w 1 = τ 1 ∧ elF τ w 2 = τ 2 := by
  obtain ⟨h1, h2, h3, h4, h5, h6⟩ := el_all hG hw0
  refine ⟨h1, h2, h3, ?_, h4 0 (by decide) (by decide), h4 1 (by decide) (by decide), h4 2 (by decide) (by decide)⟩
  rw [h3, h6]
  have key : ∀ n : Nat, (n : Int) ≤ τ 7 → trS (elF τ w) n = trS τ n + sm (fun k : Nat => miT (mrec τ k) (sset τ) (cpow τ k) (τ 6) w.toNat) n := by
    intro n
    induction n with
    | zero => intro _; rfl
    | succ n ih =>
      intro hn
      have e := ih (by omega)
      have hT := mi_T (f := mrec τ n) (st := sset τ) (pw := cpow τ n) (t := τ 6) w.toNat
      have e3 : mrec τ n 3 = τ (11 + 13 * (n : Int) + 3) := rfl
      have e4 : mrec τ n 4 = τ (11 + 13 * (n : Int) + 4) := rfl
      show trS (elF τ w) n + (elF τ w (11 + 13 * (n : Int) + 3) + elF τ w (11 + 13 * (n : Int) + 4)) = trS τ n + (τ (11 + 13 * (n : Int) + 3) + τ (11 + 13 * (n : Int) + 4)) + (sm (fun k : Nat => miT (mrec τ k) (sset τ) (cpow τ k) (τ 6) w.toNat) n + miT (mrec τ n) (sset τ) (cpow τ n) (τ 6) w.toNat)
      rw [e, h5 n 3 (by omega) (by omega) (by decide) (by decide), h5 n 4 (by omega) (by omega) (by decide) (by decide)]
      omega
  have h7 := gd_7 hG
  exact key _ (by omega)
theorem ps_0 (hG : GD N τ) (hw0 : wnP τ w = 0) (h : τ 7 = 0) : pasA τ w = 0 := by
  have h6 := (el_all hG hw0).2.2.2.2.2
  rw [h6, h]
  rfl
theorem ps_wt (hG : GD N τ) (hw0 : wnP τ w = 0) (hk : 0 ≤ k ∧ k < τ 7) : (0 ≤ wtA τ k w 0 ∧ wtA τ k w 0 ≤ 144000000) ∧ (0 ≤ wtA τ k w 1 ∧ wtA τ k w 1 ≤ 144000000) ∧ (0 < wtA τ k w 0 + wtA τ k w 1 ↔ (0 < tinA τ k ∧ tinA τ k ≤ w)) ∧ (-6 ≤ tinA τ k ∧ tinA τ k ≤ 3000) ∧ (0 ≤ pasA τ w ∧ pasA τ w < 2147483648) ∧ wtA τ k w 0 + wtA τ k w 1 ≤ pasA τ w := by
  have hw := wnP_0 hw0
  have hg := gd_g hG
  have hf := rOK_m hg hk
  have hs := qOK_of hg.2.1
  have hp := cpow_rng hg.1 k
  have h3 := mi_3 (t := τ 6) hf hs hp w.toNat
  have hT := miT_rng (t := τ 6) hf hs hp w.toNat
  have hi := mt_iff (t := τ 6) hf hs hp (w := w) (by omega)
  have e3 : mrec τ k 3 = τ (11 + 13 * k + 3) := rfl
  have e4 : mrec τ k 4 = τ (11 + 13 * k + 4) := rfl
  have h0 := wt_0 (τ := τ) (k := k) (w := w)
  have h1 := wt_1 (τ := τ) (k := k) (w := w)
  have hTT := wt_T (τ := τ) (k := k) (w := w)
  have hq := sm_ge (g := fun k : Nat => miT (mrec τ k) (sset τ) (cpow τ k) (τ 6) w.toNat) (τ 7).toNat (fun j hj => (miT_rng (t := τ 6) (rOK_m hg (k := (j : Int)) (by omega)) hs (cpow_rng hg.1 j) w.toNat).1)
  have hq2 : miT (mrec τ (k.toNat : Int)) (sset τ) (cpow τ (k.toNat : Int)) (τ 6) w.toNat ≤ _ := hq.2 k.toNat (by omega)
  rw [show ((k.toNat : Nat) : Int) = k by omega] at hq2
  have h6 := (el_all hG hw0).2.2.2.2.2
  have hE := elT_rng hg (n := w.toNat) (by omega)
  rw [← h6] at hq2
  refine ⟨by omega, by omega, ?_, hi.2, hE, by omega⟩
  rw [hTT]
  exact hi.1
theorem ps_k (hG : GD N τ) (hw0 : wnP τ w = 0) (hk : 0 ≤ k ∧ k < τ 7) : elF τ w (11 + 13 * k + 3) = τ (11 + 13 * k + 3) + wtA τ k w 0 ∧ elF τ w (11 + 13 * k + 4) = τ (11 + 13 * k + 4) + wtA τ k w 1 ∧ 6000 * (wtA τ k w 0 + wtA τ k w 1) + elF τ w (11 + 13 * k + 1) - τ (11 + 13 * k + 1) = wenA τ k w ∧ msA (elF τ w) k = msA τ k + cpow τ k * w - wenA τ k w := by
  have hw := wnP_0 hw0
  obtain ⟨h1, h2, h3, h4, h5, h6⟩ := el_all hG hw0
  have a1 := h5 k 1 hk.1 hk.2 (by decide) (by decide)
  have a3 := h5 k 3 hk.1 hk.2 (by decide) (by decide)
  have a4 := h5 k 4 hk.1 hk.2 (by decide) (by decide)
  have a5 := h5 k 5 hk.1 hk.2 (by decide) (by decide)
  have b0 := wt_0 (τ := τ) (k := k) (w := w)
  have b1 := wt_1 (τ := τ) (k := k) (w := w)
  have bT := wt_T (τ := τ) (k := k) (w := w)
  have hy := mi_wy (f := mrec τ k) (st := sset τ) (pw := cpow τ k) (t := τ 6) w.toNat
  have h55 := mi_5 (f := mrec τ k) (st := sset τ) (pw := cpow τ k) (t := τ 6) w.toNat
  have e1 : mrec τ k 1 = τ (11 + 13 * k + 1) := rfl
  have e5 : mrec τ k 5 = τ (11 + 13 * k + 5) := rfl
  rw [show ((w.toNat : Nat) : Int) = w by omega] at h55
  have c3 : elF τ w (11 + 13 * k + 3) = τ (11 + 13 * k + 3) + wtA τ k w 0 := by omega
  have c4 : elF τ w (11 + 13 * k + 4) = τ (11 + 13 * k + 4) + wtA τ k w 1 := by omega
  have cW : 6000 * (wtA τ k w 0 + wtA τ k w 1) + elF τ w (11 + 13 * k + 1) - τ (11 + 13 * k + 1) = wenA τ k w := by
    unfold wenA
    omega
  refine ⟨c3, c4, cW, ?_⟩
  rw [msA_e, msA_e]
  generalize cpow τ k * w = z at h55 ⊢
  omega
theorem wen_all (hG : GD N τ) (hw0 : wnP τ w = 0) (hk : 0 ≤ k ∧ k < τ 7) : 0 ≤ wenA τ k w ∧ (((0 < cpow τ k ∧ cpow τ k ≤ τ 0) ∨ (cpow τ k = 0 ∧ (τ (11 + 13 * k + 7) = 1 ∨ τ 1 = 0))) → wenA τ k w = 0) ∧ (τ 0 < cpow τ k → 0 ≤ stpS (mrec τ k) (cpow τ k) (τ (11 + 13 * k + 2)) * w ∧ stpS (mrec τ k) (cpow τ k) (τ (11 + 13 * k + 2)) * w ≤ wenA τ k w ∧ ((wkA τ k = -6 ∨ w ≤ wkA τ k) → wenA τ k w = stpS (mrec τ k) (cpow τ k) (τ (11 + 13 * k + 2)) * w)) ∧ (cpow τ k = 0 → τ (11 + 13 * k + 7) ≠ 1 → wenA τ k w ≤ τ 1 * w ∧ (τ 2 = 0 → wenA τ k w = τ 1 * w) ∧ (τ 2 ≠ 0 → wenA τ k w ≤ 6000 ∧ (τ (11 + 13 * k + 1) = 0 → wenA τ k w = 0))) := by
  have hw := wnP_0 hw0
  have hg := gd_g hG
  have hf := rOK_m hg hk
  have hs := qOK_of hg.2.1
  have hp := cpow_rng hg.1 k
  have hwk := wkA_r hG hk
  have hnn := wy_nn (t := τ 6) hf hs hp w.toNat
  have ew : ((w.toNat : Nat) : Int) = w := by omega
  refine ⟨hnn, fun q => wy_still (t := τ 6) hf hs hp q w.toNat, fun q => ?_, fun q1 q2 => ?_⟩
  · have h1 := wy_go (t := τ 6) hf hs hp q w.toNat
    rw [ew] at h1
    have h0 : 0 ≤ stpS (mrec τ k) (cpow τ k) (τ (11 + 13 * k + 2)) := by
      have hm := gd_m hG hk
      have : 0 ≤ cpow τ k * τ (11 + 13 * k + 2) := Int.mul_nonneg hp.1 (by omega)
      unfold stpS
      split <;> omega
    refine ⟨Int.mul_nonneg h0 (by omega), h1, fun z => ?_⟩
    have h2 := wy_even (f := mrec τ k) (st := sset τ) (pw := cpow τ k) (t := τ 6) q w.toNat (fun i hi => by
      rcases hwk with ⟨z1, z2⟩ | ⟨z1, z2, z3, z4⟩
      · exact mi_160 hf z1 i
      · refine (mi_slow i ?_).1
        show (i : Int) < max 1 (τ 3 - τ (11 + 13 * k + 9))
        omega)
    rw [ew] at h2
    exact h2
  · have h1 := wy_creep (t := τ 6) hf hs q1 q2 w.toNat
    rw [ew] at h1
    refine ⟨h1.1, fun z => h1.2 z, fun z => ?_⟩
    have h2 := wy_hole (t := τ 6) hf hs q1 q2 z w.toNat
    have e1 : mrec τ k 1 = τ (11 + 13 * k + 1) := rfl
    have hm := gd_m hG hk
    unfold wenA
    omega
theorem stp_b (h : τ (11 + 13 * k + 7) = 1) (pw sp : Int) : stpS (mrec τ k) pw sp = pw * sp / 100 / 2 := if_pos h
theorem stp_n (h : ¬ τ (11 + 13 * k + 7) = 1) (pw sp : Int) : stpS (mrec τ k) pw sp = pw * sp / 100 / 1 := by
  rw [Int.ediv_one]
  exact if_neg h
end PSS
