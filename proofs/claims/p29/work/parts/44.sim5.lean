/-! orders -/
theorem LE_wnM {σ τ : Int → Int} (h : LE σ τ) (k : Int) : wnM τ k = wnM σ k := by
  unfold wnM
  rw [h.lo (i := 7) (by decide) (by decide)]
theorem LE_wnL {σ τ : Int → Int} (h : LE σ τ) (k w : Int) : wnL τ k w = wnL σ k w := by
  unfold wnL
  rw [h.lo (i := 7) (by decide) (by decide), h.lo (i := 8) (by decide) (by decide)]
theorem LE_wnT {σ τ : Int → Int} (h : LE σ τ) (k : Int) : wnT τ k = wnT σ k := by
  unfold wnT
  rw [h.lo (i := 7) (by decide) (by decide)]
  by_cases q : ¬ (0 ≤ k ∧ k < σ 7)
  · rw [if_pos q, if_pos q]
  · rw [if_neg q, if_neg q, h.me (i := 11 + 13 * k + 7) (by omega) (by omega)]
theorem LE_wnP {σ τ : Int → Int} (h : LE σ τ) (w : Int) : wnP τ w = wnP σ w := by
  unfold wnP
  rw [h.lo (i := 6) (by decide) (by decide)]
theorem LE_whN {σ τ : Int → Int} (h : LE σ τ) (pd : Int → Int) (ln p : Int) : whN τ pd ln p = whN σ pd ln p := by
  unfold whN
  rw [LE_wnM h, LE_wnL h, LE_wnP h, LE_wnT h, h.lo (i := 7) (by decide) (by decide), h.lo (i := 8) (by decide) (by decide)]
theorem miT_rng {f st : Int → Int} {pw t : Int} (hf : rOK f) (hs : qOK st) (hp : 0 ≤ pw ∧ pw ≤ 48000) : ∀ n : Nat, 0 ≤ miT f st pw t n ∧ miT f st pw t n ≤ 100000 * n := by
  intro n
  induction n with
  | zero => exact ⟨Int.le_refl _, Int.le_refl _⟩
  | succ n ih =>
    have := rnT_rng (n := 1) (rOK_miN (t := t) hf hs hp n) hs (by decide) hp
    show 0 ≤ miT f st pw t n + rnT (miN f st pw t n) st 1 pw ∧ miT f st pw t n + rnT (miN f st pw t n) st 1 pw ≤ _
    omega
theorem sm_rng {g : Nat → Int} {B : Int} : ∀ n : Nat, (∀ k : Nat, k < n → 0 ≤ g k ∧ g k ≤ B) → 0 ≤ sm g n ∧ sm g n ≤ B * n := by
  intro n
  induction n with
  | zero => intro _; exact ⟨Int.le_refl _, by show (0 : Int) ≤ B * 0; rw [Int.mul_zero]; exact Int.le_refl _⟩
  | succ n ih =>
    intro h
    have h1 := ih (fun k hk => h k (by omega))
    have h2 := h n (by omega)
    show 0 ≤ sm g n + g n ∧ sm g n + g n ≤ B * ((n + 1 : Nat) : Int)
    rw [show ((n + 1 : Nat) : Int) = (n : Int) + 1 by omega, Int.mul_add, Int.mul_one]
    omega
theorem elT_rng {τ : Int → Int} (h : gOK τ 0) {n : Nat} (hn : n ≤ 1440) : 0 ≤ elT τ n (τ 7).toNat ∧ elT τ n (τ 7).toNat < 2147483648 := by
  have h7 := h.1.1
  rw [(elR_rec h n (τ 7).toNat (by omega)).2.2.2]
  have := sm_rng (g := fun k : Nat => miT (mrec τ k) (sset τ) (cpow τ k) (τ 6) n) (B := 144000000) (τ 7).toNat (fun k hk => by
    have := miT_rng (t := τ 6) (rOK_m h (k := k) (by omega)) (qOK_of h.2.1) (cpow_rng h.1 k) n
    omega)
  omega
theorem LE_dos {N : Int} {σ τ pd : Int → Int} {ln p : Int} (h : LE σ τ) (hF : fOK N σ) (hB : BS σ) (h0 : 0 ≤ p) (hE : 0 ≤ ordE pd ln p) (hw : whN σ pd ln p = 0) (hN : N < 2147483648) : LE (dosS σ pd ln p) (dosC τ pd ln p) ∧ BS (dosS σ pd ln p) ∧ 0 ≤ dorC τ pd ln p ∧ dorC τ pd ln p < 2147483648 := by
  have hL := hF.1.1
  have h7 := hL.1
  have h8 := hL.2.1
  have e7 := h.lo (i := 7) (by decide) (by decide)
  have e8 := h.lo (i := 8) (by decide) (by decide)
  have n1 := numA_rng pd ln (p + 1) (by omega)
  unfold dosS dosC dorC
  unfold whN at hw
  by_cases c1 : cdS pd ln p = 109
  · rw [if_pos c1] at hw
    rw [if_pos c1, if_pos c1, if_pos c1]
    have := wnM_0 hw h7
    exact ⟨LE_com h h7.1, BS_com hB h7.1, by omega, by omega⟩
  · rw [if_neg c1] at hw
    rw [if_neg c1, if_neg c1, if_neg c1]
    by_cases c2 : cdS pd ln p = 108
    · rw [if_pos c2] at hw
      rw [if_pos c2, if_pos c2, if_pos c2]
      have := wnL_0 hw h8
      exact ⟨LE_ld h h7 ⟨h8.1, this.2.2⟩, BS_ld hB h7 h8.1, by omega, by omega⟩
    · rw [if_neg c2] at hw
      rw [if_neg c2, if_neg c2, if_neg c2]
      by_cases c3 : cdS pd ln p = 115
      · rw [if_pos c3] at hw
        rw [if_pos c3, if_pos c3, if_pos c3]
        have hk : 0 ≤ numA pd ln (p + 1) ∧ numA pd ln (p + 1) < σ 8 := Classical.byContradiction fun q => by rw [if_neg q] at hw; omega
        refine ⟨LE_tn h h7 hk (hL.2.2.2 _ hk.1 hk.2).2.2, BS_tn hB h7.2 hk.1, ?_⟩
        split <;> omega
      · rw [if_neg c3] at hw
        rw [if_neg c3, if_neg c3, if_neg c3]
        by_cases c4 : cdS pd ln p = 116
        · rw [if_pos c4] at hw
          rw [if_pos c4, if_pos c4, if_pos c4]
          have hp := wnP_0 hw
          have := elT_rng (LE_gOK h hF.1) (n := (numA pd ln (p + 1)).toNat) (by omega)
          exact ⟨(LE_pass h hF ⟨n1.1, hp.2⟩).1, BS_pass hB hF _ (by omega), this.1, this.2⟩
        · rw [if_neg c4] at hw
          rw [if_neg c4, if_neg c4, if_neg c4]
          by_cases c5 : cdS pd ln p = 98
          · rw [if_pos c5] at hw
            rw [if_pos c5, if_pos c5, if_pos c5]
            have hk := (wnT_0 hw).1
            have h5 := hF.2.2.2.2.1
            have hq := (hF.2.2.2.2.2.2 _ hk.1 hk.2).2.2.2.2
            refine ⟨LE_tp h hk, BS_tp hB hk.1, ?_⟩
            rw [h.me (i := 11 + 13 * dgS pd ln (p + 1) + 6) (by omega) (by omega)]
            omega
          · rw [if_neg c5] at hw
            rw [if_neg c5, if_neg c5, if_neg c5]
            have hk : 0 ≤ dgS pd ln (p + 1) ∧ dgS pd ln (p + 1) < σ 7 := Classical.byContradiction fun q => by rw [if_neg q] at hw; omega
            have hb := bill_rng hF hk
            refine ⟨LE_vs h hk h7.2 (dOK_0 (hF.1.2.2 _ hk.1 hk.2)).2.2.2, BS_vs hB hk, ?_⟩
            rw [LE_bill h hk]
            omega
theorem cosN_rng (pd : Int → Int) (ln : Int) : ∀ (f : Nat) (σ : Int → Int) (p : Int), 0 ≤ cosN pd ln f σ p ∧ cosN pd ln f σ p ≤ f := by
  intro f
  induction f with
  | zero => intro σ p; exact ⟨Int.le_refl _, Int.le_refl _⟩
  | succ f ih =>
    intro σ p
    unfold cosN
    have := ih (dosS σ pd ln p) (ordE pd ln p + 1)
    split <;> omega
/-! copies -/
theorem LE_cp {σ τ τ0 : Int → Int} (h : LE σ τ) (h7 : 0 ≤ σ 7 ∧ σ 7 ≤ 7) (h8 : 0 ≤ σ 8 ∧ σ 8 ≤ 12) : LE σ (cpH τ0 τ) := by
  have e7 := h.lo (i := 7) (by decide) (by decide)
  have e8 := h.lo (i := 8) (by decide) (by decide)
  have key : ∀ i : Int, (0 ≤ i ∧ i < 9) ∨ i = 10 ∨ (11 ≤ i ∧ i < 11 + 13 * σ 7) ∨ (102 ≤ i ∧ i < 102 + 3 * σ 8) → cpH τ0 τ i = τ i := fun i hi => by
    unfold cpH cpH3
    rw [e7, e8]
    by_cases i10 : i = 10
    · rw [up_e i10, i10]
    · rw [up_n i10]
      by_cases i8 : i = 8
      · rw [up_e i8, i8, e8]
      · rw [up_n i8]
        by_cases i7 : i = 7
        · rw [up_e i7, i7, e7]
        · rw [up_n i7]
          by_cases i6 : i = 6
          · rw [up_e i6, i6]
          · rw [up_n i6]
            by_cases r : 102 ≤ i
            · rw [cpN_in (by omega)]
              show τ (102 + (i - 102)) = τ i
              congr 1; omega
            · rw [cpN_out (by omega)]
              by_cases r2 : 11 ≤ i
              · rw [cpN_in (by omega)]
                show τ (11 + (i - 11)) = τ i
                congr 1; omega
              · rw [cpN_out (by omega), cpN_in (by omega)]
                congr 1; omega
  refine ⟨fun i hi => ?_, fun q => ?_⟩
  · have := h.1 i hi
    unfold LIV at hi
    rw [key i (by omega), this]
  · rw [key 11 (by omega)]
    exact h.2 q
theorem fOK_cong {N : Int} {σ τ : Int → Int} (h : fOK N σ) (e : ∀ i : Int, 0 ≤ i → i < 138 → τ i = σ i) : fOK N τ := by
  obtain ⟨⟨⟨l1, l2, l3, l4⟩, hS, hD⟩, f6, f4, f5, f10, f11, fk⟩ := h
  have e7 := e 7 (by decide) (by decide)
  have e8 := e 8 (by decide) (by decide)
  refine ⟨⟨⟨by rw [e7]; exact l1, by rw [e8]; exact l2, fun i a b => ?_, fun j a b => ?_⟩, sOK_of hS (e _ (by decide) (by decide)) (e _ (by decide) (by decide)) (e _ (by decide) (by decide)) (e _ (by decide) (by decide)) (by rw [e _ (by decide) (by decide)]; exact hS.2.2.2.2), fun k a b => ?_⟩, by rw [e 6 (by decide) (by decide)]; exact f6, by rw [e 4 (by decide) (by decide)]; exact f4, by rw [e 5 (by decide) (by decide)]; exact f5, by rw [e 10 (by decide) (by decide)]; exact f10, fun q => ?_, fun k a b => ?_⟩
  · rw [e7] at b
    rw [e (11 + 13 * i) (by omega) (by omega)]
    exact l3 i a b
  · rw [e8] at b
    rw [e (102 + 3 * j) (by omega) (by omega), e (102 + 3 * j + 1) (by omega) (by omega), e (102 + 3 * j + 2) (by omega) (by omega), e7]
    exact l4 j a b
  · rw [e7] at b
    have hd := dOK_0 (hD k a b)
    apply dOK_of0
    rw [e (11 + 13 * k + 1) (by omega) (by omega), e (11 + 13 * k + 2) (by omega) (by omega), e (11 + 13 * k + 9) (by omega) (by omega), e (11 + 13 * k + 7) (by omega) (by omega)]
    exact hd
  · rw [e7] at q
    rw [e 11 (by decide) (by decide)]
    exact f11 q
  · rw [e7] at b
    have hk := fk k a b
    unfold kOK at hk ⊢
    rw [e (11 + 13 * k + 11) (by omega) (by omega), e (11 + 13 * k + 3) (by omega) (by omega), e (11 + 13 * k + 12) (by omega) (by omega), e (11 + 13 * k + 4) (by omega) (by omega), e (11 + 13 * k + 5) (by omega) (by omega), e (11 + 13 * k + 6) (by omega) (by omega), e 6 (by decide) (by decide), e 10 (by decide) (by decide)]
    exact hk
theorem BS_cong {σ τ : Int → Int} (h : BS σ) (h7 : 0 ≤ σ 7 ∧ σ 7 ≤ 7) (e : ∀ i : Int, 0 ≤ i → i < 138 → τ i = σ i) : BS τ := BS_of h (e 7 (by decide) (by decide)) (e 9 (by decide) (by decide)) (fun k hk => e _ (by omega) (by omega))
theorem LE_cong {σ σ2 τ : Int → Int} (h : LE σ τ) (h7 : 0 ≤ σ 7 ∧ σ 7 ≤ 7) (h8 : 0 ≤ σ 8 ∧ σ 8 ≤ 12) (e : ∀ i : Int, 0 ≤ i → i < 138 → σ2 i = σ i) : LE σ2 τ := by
  have e7 := e 7 (by decide) (by decide)
  have e8 := e 8 (by decide) (by decide)
  refine ⟨fun i hi => ?_, fun q => h.2 (by omega)⟩
  unfold LIV at hi
  rw [e7, e8] at hi
  rw [e i (by omega) (by omega)]
  exact h.1 i hi
/-- a state of the reference and one of a House that stand for the same -/
def SM (N : Int) (σ τ : Int → Int) : Prop := fOK N σ ∧ BS σ ∧ LE σ τ
theorem SM_mono {N M : Int} {σ τ : Int → Int} (h : SM N σ τ) (hm : N ≤ M) : SM M σ τ := ⟨fOK_mono h.1 hm, h.2⟩
theorem SM_cong {N : Int} {σ σ2 τ : Int → Int} (h : SM N σ τ) (e : ∀ i : Int, 0 ≤ i → i < 138 → σ2 i = σ i) : SM N σ2 τ := ⟨fOK_cong h.1 e, BS_cong h.2.1 h.1.1.1.1 e, LE_cong h.2.2 h.1.1.1.1 h.1.1.1.2.1 e⟩
theorem SM_cp {N : Int} {σ τ τ0 : Int → Int} (h : SM N σ τ) : SM N σ (cpH τ0 τ) := ⟨h.1, h.2.1, LE_cp h.2.2 h.1.1.1.1 h.1.1.1.2.1⟩
theorem SM_dos {N : Int} {σ τ pd : Int → Int} {ln p : Int} (h : SM N σ τ) (h0 : 0 ≤ p) (hE : 0 ≤ ordE pd ln p) (hw : whN σ pd ln p = 0) (hN : N < 2147483648) : SM (N + 1) (dosS σ pd ln p) (dosC τ pd ln p) ∧ 0 ≤ dorC τ pd ln p ∧ dorC τ pd ln p < 2147483648 := by
  obtain ⟨a, b, c⟩ := LE_dos h.2.2 h.1 h.2.1 h0 hE hw hN
  exact ⟨⟨fOK_dos h.1 h0 hw, b, a⟩, c⟩
theorem cocS_st {τ pd : Int → Int} {ln p e : Int} {f : Nat} (hf : 1 ≤ f) (h1 : p < ln) (h2 : whN τ pd ln p = 0) (he : ordE pd ln p = e) : cocS pd ln (f - 1) (dosC τ pd ln p) (e + 1) = cocS pd ln f τ p := by
  obtain ⟨g, rfl⟩ : ∃ g, f = g + 1 := ⟨f - 1, by omega⟩
  subst he
  exact (if_pos ⟨h1, h2⟩).symm
theorem cocN_st {τ pd : Int → Int} {ln p e : Int} {f : Nat} (hf : 1 ≤ f) (h1 : p < ln) (h2 : whN τ pd ln p = 0) (he : ordE pd ln p = e) : cocN pd ln (f - 1) (dosC τ pd ln p) (e + 1) + 1 = cocN pd ln f τ p := by
  obtain ⟨g, rfl⟩ : ∃ g, f = g + 1 := ⟨f - 1, by omega⟩
  subst he
  exact (if_pos ⟨h1, h2⟩).symm
theorem cocS_stop {τ pd : Int → Int} {ln p : Int} {f : Nat} (h : ¬ (p < ln ∧ whN τ pd ln p = 0)) : cocS pd ln f τ p = τ := by
  cases f with
  | zero => rfl
  | succ f => exact if_neg h
theorem cocN_stop {τ pd : Int → Int} {ln p : Int} {f : Nat} (h : ¬ (p < ln ∧ whN τ pd ln p = 0)) : cocN pd ln f τ p = 0 := by
  cases f with
  | zero => rfl
  | succ f => exact if_neg h
/-- all orders carried out -/
theorem SM_cos {pd : Int → Int} {ln : Int} : ∀ (f : Nat) (N : Int) (σ τ : Int → Int) (p : Int), SM N σ τ → 0 ≤ p → (p ≤ ln → flt pd ln (f - 1) p = -6) → ln - p < 2 * ((f : Int) - 1) → N + f < 2147483648 → SM (N + f) (cosS pd ln f σ p) (cocS pd ln f τ p) ∧ cocN pd ln f τ p = cosN pd ln f σ p := by
  intro f
  induction f with
  | zero => intro N σ τ p h _ _ _ _; exact ⟨SM_mono h (by omega), rfl⟩
  | succ f ih =>
    intro N σ τ p h h0 hv hf hN
    show SM _ (if p < ln ∧ whN σ pd ln p = 0 then cosS pd ln f (dosS σ pd ln p) (ordE pd ln p + 1) else σ) (if p < ln ∧ whN τ pd ln p = 0 then cocS pd ln f (dosC τ pd ln p) (ordE pd ln p + 1) else τ) ∧ (if p < ln ∧ whN τ pd ln p = 0 then cocN pd ln f (dosC τ pd ln p) (ordE pd ln p + 1) + 1 else 0) = (if p < ln ∧ whN σ pd ln p = 0 then cosN pd ln f (dosS σ pd ln p) (ordE pd ln p + 1) + 1 else 0)
    rw [LE_whN h.2.2]
    by_cases c : p < ln ∧ whN σ pd ln p = 0
    · rw [if_pos c, if_pos c, if_pos c, if_pos c]
      have hv := hv (by omega)
      obtain ⟨g, hg⟩ : ∃ g, f = g + 1 := ⟨f - 1, by omega⟩
      rw [show f + 1 - 1 = g + 1 by omega] at hv
      obtain ⟨o1, o2⟩ := flt_ord hv h0
      have ol := ord_le h0 o1
      have hd := SM_dos h h0 o1 c.2 (by omega)
      have := ih (N + 1) (dosS σ pd ln p) (dosC τ pd ln p) (ordE pd ln p + 1) hd.1 (by omega) (fun q => by
        rw [show f - 1 = g by omega]
        rcases o2 with o2 | o2
        · omega
        · exact o2.2) (by omega) (by omega)
      exact ⟨SM_mono this.1 (by omega), by rw [this.2]⟩
    · rw [if_neg c, if_neg c, if_neg c, if_neg c]
      exact ⟨SM_mono h (by omega), rfl⟩
