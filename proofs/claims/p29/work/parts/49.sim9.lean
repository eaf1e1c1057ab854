/-! past, slots; all that stands for all -/
def HX (fr kn i : Int) : Int := (fr + 7 - kn + i) % 7
def HH (N : Int) (pa : Int → Int) (kn : Int) (hh : Int → Int → Int) (fr : Int) : Prop := ∀ i : Int, 0 ≤ i → i < kn → SM N (fun x => pa (138 * i + x)) (hh (HX fr kn i))
def SL (N : Int) (sl sv : Int → Int) (ss : Int → Int → Int) (su : Int → Int) : Prop := ∀ k : Int, 0 ≤ k → k ≤ 1 → (sv k = 0 ∨ sv k = 1) ∧ su k = sv k ∧ (sv k = 1 → SM N (fun x => sl (138 * k + x)) (ss k))
def REL (N : Int) (σ pa sl sv pd : Int → Int) (kn ln : Int) (τ : Int → Int) (ss hh : Int → Int → Int) (pd2 : Int → Int) (ln2 fr kp : Int) (su : Int → Int) : Prop := SM N σ τ ∧ (pOK pd ln ∧ ln2 = ln ∧ PE pd ln pd2) ∧ ((0 ≤ kn ∧ kn ≤ 6) ∧ kp = kn ∧ (0 ≤ fr ∧ fr < 7)) ∧ HH N pa kn hh fr ∧ SL N sl sv ss su
theorem HH_mono {N M : Int} {pa : Int → Int} {kn fr : Int} {hh : Int → Int → Int} (h : HH N pa kn hh fr) (hm : N ≤ M) : HH M pa kn hh fr := fun i a b => SM_mono (h i a b) hm
theorem SL_mono {N M : Int} {sl sv su : Int → Int} {ss : Int → Int → Int} (h : SL N sl sv ss su) (hm : N ≤ M) : SL M sl sv ss su := fun k a b => ⟨(h k a b).1, (h k a b).2.1, fun q => SM_mono ((h k a b).2.2 q) hm⟩
theorem HX_rng (fr kn i : Int) : 0 ≤ HX fr kn i ∧ HX fr kn i < 7 := by unfold HX; omega
/-- the free row may hold anything -/
theorem HH_pre {N : Int} {pa : Int → Int} {kn fr : Int} {hh : Int → Int → Int} {X : Int → Int} (h : HH N pa kn hh fr) (hk : kn ≤ 6) (hf : 0 ≤ fr ∧ fr < 7) : HH N pa kn (upH hh fr X) fr := fun i a b => by
  have := h i a b
  rw [upH_n (by unfold HX; omega)]
  exact this
/-- a state more is kept -/
theorem HH_rem {N : Int} {σ τ pa : Int → Int} {kn fr : Int} {hh : Int → Int → Int} (h : HH N pa kn hh fr) (hS : SM N σ τ) (hk : 0 ≤ kn ∧ kn ≤ 6) (hf : 0 ≤ fr ∧ fr < 7) : HH N (remP σ pa kn) (remK kn) (upH hh fr (cpH (hh fr) τ)) ((fr + 1) % 7) := fun i a b => by
  have hQ : remQ kn = if kn = 6 then 5 else kn := rfl
  have hK : remK kn = remQ kn + 1 := rfl
  by_cases e : i = remQ kn
  · have hx : HX ((fr + 1) % 7) (remK kn) i = fr := by unfold HX; rw [hK, e]; omega
    rw [hx, upH_s]
    refine SM_cong (SM_cp hS) fun x p q => ?_
    show remP σ pa kn (138 * i + x) = σ x
    unfold remP
    rw [cpN_in (by rw [← e]; omega), e]
    congr 1; omega
  · by_cases k6 : kn = 6
    · rw [if_pos k6] at hQ
      have hx : HX ((fr + 1) % 7) (remK kn) i = HX fr kn (i + 1) := by unfold HX; rw [hK, hQ, k6]; omega
      rw [hx, upH_n (by unfold HX; omega)]
      refine SM_cong (h (i + 1) (by omega) (by omega)) fun x p q => ?_
      show remP σ pa kn (138 * i + x) = pa (138 * (i + 1) + x)
      unfold remP remO
      rw [cpN_out (by rw [hQ]; omega), if_pos k6, cpN_in (by omega)]
      show pa (138 + (138 * i + x - 0)) = _
      congr 1; omega
    · rw [if_neg k6] at hQ
      have hx : HX ((fr + 1) % 7) (remK kn) i = HX fr kn i := by unfold HX; rw [hK, hQ]; omega
      rw [hx, upH_n (by unfold HX; omega)]
      refine SM_cong (h i a (by omega)) fun x p q => ?_
      show remP σ pa kn (138 * i + x) = pa (138 * i + x)
      unfold remP remO
      rw [cpN_out (by rw [hQ]; omega), if_neg k6]
theorem remK_min {kn : Int} (h : 0 ≤ kn ∧ kn ≤ 6) : min 6 (kn + 1) = remK kn := by
  unfold remK remQ
  split <;> omega
theorem remK_rng {kn : Int} (h : 0 ≤ kn ∧ kn ≤ 6) : 0 ≤ remK kn ∧ remK kn ≤ 6 := by
  unfold remK remQ
  split <;> omega
/-- one back -/
theorem HH_und {N : Int} {pa : Int → Int} {kn fr : Int} {hh : Int → Int → Int} (h : HH N pa kn hh fr) (hk : 1 ≤ kn ∧ kn ≤ 6) (hf : 0 ≤ fr ∧ fr < 7) : HH N pa (kn - 1) hh ((fr + 6) % 7) ∧ SM N (fun x => pa (138 * (kn - 1) + x)) (hh ((fr + 6) % 7)) := by
  refine ⟨fun i a b => ?_, ?_⟩
  · have hx : HX ((fr + 6) % 7) (kn - 1) i = HX fr kn i := by unfold HX; omega
    rw [hx]
    exact h i a (by omega)
  · have hx : HX fr kn (kn - 1) = (fr + 6) % 7 := by unfold HX; omega
    have := h (kn - 1) (by omega) (by omega)
    rw [hx] at this
    exact this
theorem SL_save {N : Int} {σ τ sl sv su : Int → Int} {ss : Int → Int → Int} {k : Int} (h : SL N sl sv ss su) (hS : SM N σ τ) (hk : 0 ≤ k ∧ k ≤ 1) : SL N (cpN sl σ (138 * k) 138) (up sv k 1) (upH ss k (cpH (ss k) τ)) (up su k 1) := fun j a b => by
  by_cases e : j = k
  · subst e
    rw [up_s, up_s, upH_s]
    refine ⟨Or.inr rfl, rfl, fun _ => SM_cong (SM_cp hS) fun x p q => ?_⟩
    show cpN sl σ (138 * j) 138 (138 * j + x) = σ x
    rw [cpN_in (by omega)]
    congr 1; omega
  · rw [up_n e, up_n e, upH_n e]
    refine ⟨(h j a b).1, (h j a b).2.1, fun q => SM_cong ((h j a b).2.2 q) fun x p r => ?_⟩
    exact cpN_out (by omega)
theorem SM_back {N : Int} {σ σ2 τ τ2 : Int → Int} (h : SM N σ2 τ2) : SM N (cpN σ σ2 0 138) (cpH τ τ2) := SM_cong (SM_cp h) fun x p q => by
  rw [cpN_in (by omega)]
  congr 1; omega
theorem SM_set {N : Int} {σ τ : Int → Int} {k v : Int} (h : SM N σ τ) (hs : setOK k v) : SM N (up σ k v) (up τ k v) := ⟨fOK_set h.1 hs, BS_set h.2.1 hs.1, LE_set h.2.2 hs.1⟩
theorem SM_com {N : Int} {σ τ : Int → Int} {k : Int} (h : SM N σ τ) (hw : wnM σ k = 0) : SM (N + 1) (comF σ k) (amF τ k) := by
  have h7 := h.1.1.1.1
  have := wnM_0 hw h7
  exact ⟨fOK_com h.1 this.1 this.2, BS_com h.2.1 h7.1, LE_com h.2.2 h7.1⟩
theorem SM_ld {N : Int} {σ τ : Int → Int} {k w : Int} (h : SM N σ τ) (hw : wnL σ k w = 0) : SM N (ldF σ k w) (alF τ k w) := by
  have h7 := h.1.1.1.1
  have h8 := h.1.1.1.2.1
  have := wnL_0 hw h8
  exact ⟨fOK_ld h.1 this, BS_ld h.2.1 h7 h8.1, LE_ld h.2.2 h7 ⟨h8.1, this.2.2⟩⟩
theorem SM_tn {N : Int} {σ τ : Int → Int} {k : Int} (h : SM N σ τ) (hk : 0 ≤ k ∧ k < σ 8) : SM N (tnF σ k) (swF τ k) := ⟨fOK_tn h.1 hk, BS_tn h.2.1 h.1.1.1.1.2 hk.1, LE_tn h.2.2 h.1.1.1.1 hk (h.1.1.1.2.2.2 k hk.1 hk.2).2.2⟩
theorem SM_tp {N : Int} {σ τ : Int → Int} {k : Int} (h : SM N σ τ) (hk : 0 ≤ k ∧ k < σ 7) : SM N (tpF σ k) (bsF τ k) := ⟨fOK_tp h.1 hk, BS_tp h.2.1 hk.1, LE_tp h.2.2 hk⟩
theorem SM_vs {N : Int} {σ τ : Int → Int} {k : Int} (h : SM N σ τ) (hk : 0 ≤ k ∧ k < σ 7) : SM (N + 1) (vsF σ k) (inF τ k) := ⟨fOK_vs h.1 hk, BS_vs h.2.1 hk, LE_vs h.2.2 hk h.1.1.1.1.2 (dOK_0 (h.1.1.2.2 k hk.1 hk.2)).2.2.2⟩
theorem SM_pass {N : Int} {σ τ : Int → Int} {w : Int} (h : SM N σ τ) (hw : 0 ≤ w ∧ σ 6 + w ≤ 99999) : SM N (pMins σ 0 w.toNat) (elF τ w) := ⟨(fOK_pMins h.1 w.toNat (by omega)).1, BS_pass h.2.1 h.1 _ (by omega), (LE_pass h.2.2 h.1 hw).1⟩
