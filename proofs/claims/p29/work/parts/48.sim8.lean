/-! pads alike in what is written -/
def PE (pd : Int → Int) (ln : Int) (pd2 : Int → Int) : Prop := ∀ i : Int, 0 ≤ i → i < ln → pd2 i = pd i
section PEs
variable {pd pd2 : Int → Int} {ln : Int}
theorem PE_dg (h : PE pd ln pd2) {p : Int} (h0 : 0 ≤ p) : dgS pd2 ln p = dgS pd ln p := by
  unfold dgS
  by_cases q : p < ln
  · rw [h p h0 q]
  · rw [if_neg (fun w => q w.1), if_neg (fun w => q w.1)]
theorem PE_cd (h : PE pd ln pd2) {p : Int} (h0 : 0 ≤ p) : cdS pd2 ln p = cdS pd ln p := by
  unfold cdS
  by_cases q : p < ln
  · rw [if_pos q, if_pos q, h p h0 q]
  · rw [if_neg q, if_neg q]
theorem PE_nend (h : PE pd ln pd2) {p : Int} (h0 : 0 ≤ p) : nend pd2 ln p = nend pd ln p := by
  unfold nend
  rw [PE_dg h h0, PE_dg h (p := p + 1) (by omega), PE_dg h (p := p + 2) (by omega), PE_dg h (p := p + 3) (by omega)]
theorem PE_nval (h : PE pd ln pd2) {p : Int} (h0 : 0 ≤ p) : ∀ n : Nat, nval pd2 ln p n = nval pd ln p n := by
  intro n
  induction n with
  | zero => rfl
  | succ n ih =>
    show 10 * nval pd2 ln p n + dgS pd2 ln (p + n) = 10 * nval pd ln p n + dgS pd ln (p + n)
    rw [ih, PE_dg h (by omega)]
theorem PE_num (h : PE pd ln pd2) {p : Int} (h0 : 0 ≤ p) : numA pd2 ln p = numA pd ln p := by
  unfold numA
  rw [PE_nend h h0, PE_nval h h0]
theorem PE_ord (h : PE pd ln pd2) {p : Int} (h0 : 0 ≤ p) : ordE pd2 ln p = ordE pd ln p := by
  unfold ordE
  rw [PE_cd h h0, PE_cd h (p := p + 2) (by omega), PE_dg h (p := p + 1) (by omega), PE_nend h (p := p + 3) (by omega), PE_nend h (p := p + 1) (by omega)]
theorem PE_flt (h : PE pd ln pd2) : ∀ (f : Nat) (p : Int), 0 ≤ p → flt pd2 ln f p = flt pd ln f p := by
  intro f
  induction f with
  | zero => intro p _; rfl
  | succ f ih =>
    intro p h0
    unfold flt
    rw [PE_ord h h0]
    by_cases e : ordE pd ln p < 0
    · rw [if_pos e, if_pos e]
    · rw [if_neg e, if_neg e, PE_cd h (by omega), ih _ (by omega)]
theorem PE_wh (h : PE pd ln pd2) (σ : Int → Int) {p : Int} (h0 : 0 ≤ p) : whN σ pd2 ln p = whN σ pd ln p := by
  unfold whN
  rw [PE_cd h h0, PE_dg h (p := p + 1) (by omega), PE_num h (p := p + 3) (by omega), PE_num h (p := p + 1) (by omega)]
theorem PE_dos (h : PE pd ln pd2) (σ : Int → Int) {p : Int} (h0 : 0 ≤ p) : dosS σ pd2 ln p = dosS σ pd ln p := by
  unfold dosS
  rw [PE_cd h h0, PE_dg h (p := p + 1) (by omega), PE_num h (p := p + 3) (by omega), PE_num h (p := p + 1) (by omega)]
theorem PE_cosS (h : PE pd ln pd2) : ∀ (f : Nat) (σ : Int → Int) (p : Int), 0 ≤ p → (p ≤ ln → flt pd ln (f - 1) p = -6) → ln - p < 2 * ((f : Int) - 1) → cosS pd2 ln f σ p = cosS pd ln f σ p ∧ cosN pd2 ln f σ p = cosN pd ln f σ p := by
  intro f
  induction f with
  | zero => intro σ p _ _ _; exact ⟨rfl, rfl⟩
  | succ f ih =>
    intro σ p h0 hv hf
    unfold cosS cosN
    rw [PE_wh h σ h0, PE_ord h h0, PE_dos h σ h0]
    by_cases c : p < ln ∧ whN σ pd ln p = 0
    · rw [if_pos c, if_pos c, if_pos c, if_pos c]
      have hv := hv (by omega)
      obtain ⟨g, hg⟩ : ∃ g, f = g + 1 := ⟨f - 1, by omega⟩
      rw [show f + 1 - 1 = g + 1 by omega] at hv
      obtain ⟨o1, o2⟩ := flt_ord hv h0
      have ol := ord_le h0 o1
      have := ih (dosS σ pd ln p) (ordE pd ln p + 1) (by omega) (fun q => by
        rw [show f - 1 = g by omega]
        rcases o2 with o2 | o2
        · omega
        · exact o2.2) (by omega)
      exact ⟨this.1, by rw [this.2]⟩
    · rw [if_neg c, if_neg c, if_neg c, if_neg c]
      exact ⟨rfl, rfl⟩
theorem PE_sg (h : PE pd ln pd2) (k : Int) : sgA pd2 ln k = if 0 ≤ k ∧ k < ln then pd k else -1 := by
  unfold sgA
  by_cases q : 0 ≤ k ∧ k < ln
  · rw [if_pos q, if_pos q, h k q.1 q.2]
  · rw [if_neg q, if_neg q]
theorem PE_ptW (h : PE pd ln pd2) {x y j l2 : Int} (hl : l2 = ln + j) : PE (ptW pd ln x y j) l2 (ptW pd2 ln x y j) := fun i a b => by
  unfold ptW
  by_cases q : ln ≤ i ∧ i < ln + j
  · rw [if_pos q, if_pos q]
  · rw [if_neg q, if_neg q, h i a (by omega)]
theorem PE_numW (h : PE pd ln pd2) {v l2 : Int} (hl : l2 = ln + (ndg v : Int)) : PE (numW pd ln v) l2 (numW pd2 ln v) := fun i a b => by
  unfold numW
  by_cases q : ln ≤ i ∧ i < ln + ndg v
  · rw [if_pos q, if_pos q]
  · rw [if_neg q, if_neg q, h i a (by omega)]
theorem PE_up (h : PE pd ln pd2) {v l2 : Int} (hl : l2 = ln + 1) : PE (up pd ln v) l2 (up pd2 ln v) := fun i a b => by
  by_cases q : i = ln
  · rw [up_e q, up_e q]
  · rw [up_n q, up_n q, h i a (by omega)]
end PEs
theorem PE_wr (pd pd2 : Int → Int) (d n s b : Int) : PE (wrP pd d n s b) (wrL d n s b) (wrP pd2 d n s b) := by
  have h0 : PE pd 0 pd2 := fun i a b => by omega
  have h2 : PE (wp2 pd d) (wl2 d) (wp2 pd2 d) := PE_numW (PE_up h0 rfl) rfl
  have h4 : PE (wp4 pd d n) (wl4 d n) (wp4 pd2 d n) := PE_numW (PE_up h2 rfl) rfl
  have h6 : PE (wp6 pd d n s) (wl6 d n s) (wp6 pd2 d n s) := PE_numW (PE_up h4 rfl) rfl
  unfold wrP wrL
  by_cases q : b = 1
  · rw [if_pos q, if_pos q, if_pos q]; exact PE_up h6 rfl
  · rw [if_neg q, if_neg q, if_neg q]; exact h6
/-! what stands in a pad -/
def CH (pd : Int → Int) (ln : Int) : Prop := ∀ i : Int, 0 ≤ i → i < ln → 33 ≤ pd i ∧ pd i ≤ 126
theorem CH_up {pd : Int → Int} {ln v l2 : Int} (h : CH pd ln) (hv : 33 ≤ v ∧ v ≤ 126) (hl : l2 = ln + 1) : CH (up pd ln v) l2 := fun i a b => by
  by_cases q : i = ln
  · rw [up_e q]; exact hv
  · rw [up_n q]; exact h i a (by omega)
theorem CH_numW {pd : Int → Int} {ln v l2 : Int} (h : CH pd ln) (hl : l2 = ln + (ndg v : Int)) : CH (numW pd ln v) l2 := fun i a b => by
  unfold numW
  by_cases q : ln ≤ i ∧ i < ln + ndg v
  · rw [if_pos q]; omega
  · rw [if_neg q]; exact h i a (by omega)
theorem CH_wr (pd : Int → Int) (d n s b : Int) : CH (wrP pd d n s b) (wrL d n s b) := by
  have h0 : CH pd 0 := fun i a b => by omega
  have h2 : CH (wp2 pd d) (wl2 d) := CH_numW (CH_up h0 (by decide) rfl) rfl
  have h4 : CH (wp4 pd d n) (wl4 d n) := CH_numW (CH_up h2 (by decide) rfl) rfl
  have h6 : CH (wp6 pd d n s) (wl6 d n s) := CH_numW (CH_up h4 (by decide) rfl) rfl
  unfold wrP wrL
  by_cases q : b = 1
  · rw [if_pos q, if_pos q]; exact CH_up h6 (by decide) rfl
  · rw [if_neg q, if_neg q]; exact h6
theorem wrL_rng (d n s b : Int) : 0 ≤ wrL d n s b ∧ wrL d n s b ≤ 34 := by
  have h1 := ndg_le d
  have h2 := ndg_le n
  have h3 := ndg_le s
  unfold wrL wl6 wl4 wl2
  split <;> omega
/-- the characters that a put writes -/
theorem pt_ch (x : Int) : ∀ n : Nat, ptR x n = 1 → (∀ i : Int, 0 ≤ i → i < ptM x n → 33 ≤ byS x i ∧ byS x i ≤ 126) ∧ (ptE x n = 0 → ptM x n = n) := by
  intro n
  induction n with
  | zero => intro _; exact ⟨fun i a b => by have : i < 0 := b; omega, fun _ => rfl⟩
  | succ n ih =>
    intro h
    have hc : ptR x n = 1 ∧ (ptE x (n + 1) = 1 → byS x n = 0) ∧ (ptE x (n + 1) ≠ 1 → 33 ≤ byS x n ∧ byS x n ≤ 126) := Classical.byContradiction fun q => by
      have h : (if ptR x n = 1 ∧ (ptE x (n + 1) = 1 → byS x n = 0) ∧ (ptE x (n + 1) ≠ 1 → 33 ≤ byS x n ∧ byS x n ≤ 126) then (1 : Int) else 0) = 1 := h
      rw [if_neg q] at h
      cases h
    obtain ⟨a, b⟩ := ih hc.1
    have hM : ptM x (n + 1) = ptM x n + (if ptE x (n + 1) = 1 then 0 else 1) := rfl
    by_cases e : ptE x (n + 1) = 1
    · rw [if_pos e, Int.add_zero] at hM
      rw [hM]
      exact ⟨a, fun q => by omega⟩
    · have e0 : ptE x n = 0 := by
        rcases ptE_01 x n with w | w
        · exact w
        · exact absurd (show ptE x (n + 1) = 1 from if_pos (Or.inl w)) e
      rw [if_neg e] at hM
      rw [hM, b e0]
      refine ⟨fun i p q => ?_, fun _ => by omega⟩
      by_cases w : i = n
      · subst w; exact hc.2.2 e
      · exact a i p (by rw [b e0]; omega)
theorem CH_pt {pd : Int → Int} {ln x l2 : Int} (h : CH pd ln) (hR : ptR x 8 = 1) (hl : l2 = ln + ptM x 8) : CH (ptW pd ln x (ptM x 8) (ptM x 8)) l2 := fun i a b => by
  unfold ptW
  by_cases q : ln ≤ i ∧ i < ln + ptM x 8
  · rw [if_pos q]
    exact (pt_ch x 8 hR).1 _ (by omega) (by omega)
  · rw [if_neg q]; exact h i a (by omega)
