/-! what if: the reference's row beside, the class's probe -/
theorem pwr_lt {σ τ : Int → Int} (hL : lOK σ) {o : Int} (ho : 0 ≤ o) (h : ∀ i : Int, i < 138 → τ i = σ i) : pwr τ o = pwr σ o := by
  have h7 := hL.1
  have h8 := hL.2.1
  have key : ∀ n : Nat, (n : Int) ≤ σ 8 → psum τ o n = psum σ o n := by
    intro n
    induction n with
    | zero => intro _; rfl
    | succ n ih =>
      intro hn
      have hl := (hL.2.2.2 n (by omega) (by omega)).1
      unfold psum
      rw [ih (by omega), h (102 + 3 * (n : Int) + 2) (by omega), h (102 + 3 * (n : Int) + 1) (by omega), h (102 + 3 * (n : Int)) (by omega), climb_lt hL ho (fun m a b => h _ (by omega)) 7 _ hl.2]
  unfold pwr
  rw [h 8 (by decide)]
  exact key _ (by omega)
theorem lOK_lt {σ τ : Int → Int} (hL : lOK σ) (h : ∀ i : Int, i < 138 → τ i = σ i) : lOK τ := by
  have h7 := hL.1
  exact lOK_of hL (h 7 (by decide)) (h 8 (by decide)) (fun i a b => h _ (by omega)) (fun j a b => h _ b)
def QI (f st : Int → Int) (pw t k : Int) (m : Nat) (ρ : Int → Int) : Prop := RE (miN f st pw t m) (qrec ρ 138 k) ∧ SE st (qst ρ 138) ∧ pwr ρ k = pw ∧ ρ 144 = t + m ∧ lOK ρ
theorem QI_T {f st ρ : Int → Int} {pw t k : Int} {m : Nat} (h : QI f st pw t k m ρ) (hk : 0 ≤ k) : pOneP ρ 138 k / 6000 = rnT (miN f st pw t m) st 1 pw := by
  obtain ⟨a, b, c, -⟩ := h
  rw [pOne_T hk (Or.inr rfl), c, rnT_congr a b]
theorem QI_s {f st ρ : Int → Int} {pw t k : Int} {m : Nat} (hf : rOK f) (hs : qOK st) (hp : 0 ≤ pw ∧ pw ≤ 48000) (h : QI f st pw t k m ρ) (hk : 0 ≤ k) : QI f st pw t k (m + 1) (stp ρ k) := by
  obtain ⟨a, b, c, d, e⟩ := h
  have h2 : ρ (138 + 11 + 13 * k + 2) ≤ 160 := by
    have := a 2 (by decide) (by decide)
    have w := (rOK_miN (t := t) hf hs hp m).2.1.2
    rw [← this] at w
    exact w
  have r := pOne_rec (σ := ρ) hk (Or.inr rfl) h2
  rw [c, show ρ (138 + 6) = t + m from d] at r
  refine ⟨?_, fun i x y => ?_, ?_, ?_, lOK_lt e (fun i hi => stp_low hk hi)⟩
  · refine (rnM_congr a b).trans (RE.trans r fun j x y => ?_)
    show stp ρ k (138 + 11 + 13 * k + j) = pOne ρ 138 k (138 + 11 + 13 * k + j)
    exact up_n (by omega)
  · rw [← b i x y]
    show stp ρ k (138 + i) = ρ (138 + i)
    exact (up_n (by omega)).trans (pOne_n (by omega))
  · rw [← c]
    exact pwr_lt e hk (fun i hi => stp_low hk hi)
  · rw [stp_144 hk, d]
    omega
theorem QI_0 {N : Int} {σ : Int → Int} {k : Int} (hF : fOK N σ) (hk : 0 ≤ k ∧ k < σ 7) : QI (mrec σ k) (sset σ) (pwr σ k) (σ 6) k 0 (cpN σ σ 138 138) := by
  have h7 := hF.1.1.1
  have lo : ∀ i : Int, i < 138 → cpN σ σ 138 138 i = σ i := fun i hi => cpN_out (by omega)
  refine ⟨fun j a b => ?_, fun i a b => ?_, pwr_lt hF.1.1 hk.1 lo, ?_, lOK_lt hF.1.1 lo⟩
  · show cpN σ σ 138 138 (138 + 11 + 13 * k + j) = σ (11 + 13 * k + j)
    rw [cpN_in (by omega)]
    congr 1; omega
  · show cpN σ σ 138 138 (138 + i) = sset σ i
    unfold sset
    rw [cpN_in (by omega), if_pos (by omega)]
    congr 1; omega
  · rw [cpN_in (by omega)]
    show σ 6 = σ 6 + (0 : Nat)
    omega
theorem ti_mt {f st : Int → Int} {pw t k : Int} (hf : rOK f) (hs : qOK st) (hp : 0 ≤ pw ∧ pw ≤ 48000) (hk : 0 ≤ k) : ∀ (g m : Nat) (ρ : Int → Int), QI f st pw t k m ρ → tiR k g ρ ((m : Int) + 1) = mtR f st pw t g m := by
  intro g
  induction g with
  | zero => intro m ρ _; rfl
  | succ g ih =>
    intro m ρ h
    show (if 0 < pOneP ρ 138 k / 6000 then (m : Int) + 1 else tiR k g (stp ρ k) ((m : Int) + 1 + 1)) = if 0 < rnT (miN f st pw t (m : Int).toNat) st 1 pw then (m : Int) + 1 else mtR f st pw t g ((m : Int) + 1)
    rw [QI_T h hk, Int.toNat_natCast]
    split
    · rfl
    · have := ih (m + 1) (stp ρ k) (QI_s hf hs hp h hk)
      rw [show (((m + 1 : Nat) : Int)) = (m : Int) + 1 by omega] at this
      exact this
theorem wt_mi {f st : Int → Int} {pw t k : Int} (hf : rOK f) (hs : qOK st) (hp : 0 ≤ pw ∧ pw ≤ 48000) (hk : 0 ≤ k) {ρ : Int → Int} (h : QI f st pw t k 0 ρ) : ∀ n : Nat, QI f st pw t k n (wtS ρ k n) := by
  intro n
  induction n with
  | zero => exact h
  | succ n ih => exact QI_s hf hs hp ih hk
theorem mtR_congr {f g st st2 : Int → Int} {pw t : Int} (h : RE f g) (hs : SE st st2) : ∀ (q : Nat) (n : Int), mtR g st2 pw t q n = mtR f st pw t q n := by
  intro q
  induction q with
  | zero => intro n; rfl
  | succ q ih =>
    intro n
    show (if 0 < rnT (miN g st2 pw t n.toNat) st2 1 pw then n + 1 else mtR g st2 pw t q (n + 1)) = if 0 < rnT (miN f st pw t n.toNat) st 1 pw then n + 1 else mtR f st pw t q (n + 1)
    rw [rnT_congr (miN_congr h hs n.toNat).1 hs, ih]
theorem LE_ti {N : Int} {σ τ : Int → Int} {k : Int} (h : LE σ τ) (hF : fOK N σ) (hk : 0 ≤ k ∧ k < σ 7) : mtR (mrec τ k) (sset τ) (cpow τ k) (τ 6) 3000 0 = tiR k 3000 (cpN σ σ 138 138) 1 := by
  have := ti_mt (rOK_m hF.1 hk) (qOK_of hF.1.2.1) (pwr_rng hF.1.1 k) hk.1 3000 0 _ (QI_0 hF hk)
  rw [LE_cpow h hF.1.1 hk, h.lo (i := 6) (by decide) (by decide), mtR_congr (h.re hk.1 hk.2) h.se]
  exact this.symm
theorem LE_wt {N : Int} {σ τ : Int → Int} {k w nt : Int} (h : LE σ τ) (hF : fOK N σ) (hk : 0 ≤ k ∧ k < σ 7) : miN (mrec τ k) (sset τ) (cpow τ k) (τ 6) w.toNat (if nt = 1 then 4 else 3) - τ (11 + 13 * k + (if nt = 1 then 4 else 3)) = wtS (cpN σ σ 138 138) k w.toNat (138 + (0 + 11 + 13 * k + (if nt = 1 then 4 else 3))) - σ (0 + 11 + 13 * k + (if nt = 1 then 4 else 3)) := by
  have hq := wt_mi (rOK_m hF.1 hk) (qOK_of hF.1.2.1) (pwr_rng hF.1.1 k) hk.1 (QI_0 hF hk) w.toNat
  have hc := (miN_congr (pw := pwr σ k) (t := σ 6) (h.re hk.1 hk.2) h.se w.toNat).1
  have key : ∀ j : Int, 1 ≤ j → j < 13 → miN (mrec τ k) (sset τ) (cpow τ k) (τ 6) w.toNat j - τ (11 + 13 * k + j) = wtS (cpN σ σ 138 138) k w.toNat (138 + (0 + 11 + 13 * k + j)) - σ (0 + 11 + 13 * k + j) := fun j a b => by
    have q1 := hq.1 j a b
    have q2 := hc j a b
    rw [LE_cpow h hF.1.1 hk, h.lo (i := 6) (by decide) (by decide), q2, ← q1, LE_m h hk ⟨a, b⟩, show (0 : Int) + 11 = 11 from rfl]
    show wtS (cpN σ σ 138 138) k w.toNat (138 + 11 + 13 * k + j) - σ (11 + 13 * k + j) = _
    rw [show 138 + 11 + 13 * k + j = 138 + (11 + 13 * k + j) by omega]
  split
  · exact key 4 (by decide) (by decide)
  · exact key 3 (by decide) (by decide)
