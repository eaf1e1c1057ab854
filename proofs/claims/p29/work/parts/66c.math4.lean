/-! what isVisited(), does() ask: changes but minutes -/
theorem GD_mono {N M : Int} {τ : Int → Int} (h : GD N τ) (h1 : N ≤ M) (h2 : M ≤ 1000) : GD M τ := by
  obtain ⟨a, ⟨σ, b⟩, c⟩ := h
  exact ⟨by omega, ⟨σ, SM_mono b h1⟩, c⟩
theorem inF_out {τ : Int → Int} {k i : Int} (h : i < 11 + 13 * k ∨ 11 + 13 * k + 13 ≤ i) (hA : i ≠ 10) : inF τ k i = τ i := by
  have e1 : inA τ k i = τ i := inM_out h
  unfold inF
  split
  · exact e1
  · rw [inM_out h]
    exact (up_n hA).trans e1
theorem inF_m {N : Int} {τ : Int → Int} {k j : Int} (h : GD N τ) (hk : 0 ≤ k ∧ k < τ 7) (hj : 1 ≤ j ∧ j < 13) : inF τ k (11 + 13 * k + j) = if j = 7 then 0 else if j = 6 then (if τ (11 + 13 * k + 7) = 1 then τ 10 + 1 else τ (11 + 13 * k + 6)) else if j = 10 then τ (11 + 13 * k + 10) + 1 else if j = 9 then 0 else if j = 2 then 100 else if j = 8 then τ (11 + 13 * k + 8) + bilA τ k else if j = 12 then τ (11 + 13 * k + 4) else if j = 11 then τ (11 + 13 * k + 3) else τ (11 + 13 * k + j) := by
  have hm := gd_m h hk
  obtain ⟨-, ⟨σ, hS⟩, -⟩ := h
  have hL := hS.2.2
  have e7 : τ 7 = σ 7 := hL.lo (by decide) (by decide)
  have hk2 : 0 ≤ k ∧ k < σ 7 := by omega
  have hk3 : 0 ≤ k ∧ k < vsF σ k 7 := by rw [vsF_lo hk.1 (by decide) (by decide) (by omega)]; exact hk2
  have hV := (SM_vs hS hk2).2.2
  rw [LE_m hV hk3 hj, vsF_m hk.1 (by omega)]
  have eb : bilA τ k = billS σ k := LE_bill hL hk2
  have t (x : Int) (hx : 1 ≤ x ∧ x < 13) : τ (11 + 13 * k + x) = σ (11 + 13 * k + x) := LE_m hL hk2 hx
  rw [eb, t 7 (by decide), t 6 (by decide), t 10 (by decide), t 8 (by decide), t 4 (by decide), t 3 (by decide), hL.ten, t j hj]
  have h7 := hm.2.2.2
  rw [t 7 (by decide)] at h7
  by_cases q : j = 7
  · rw [if_pos q, if_pos q]
    split <;> omega
  · rw [if_neg q, if_neg q]
theorem inF_10 {N : Int} {τ : Int → Int} {k : Int} (h : GD N τ) (hk : 0 ≤ k ∧ k < τ 7) : inF τ k 10 = if τ (11 + 13 * k + 7) = 1 then τ 10 + 1 else τ 10 := by
  obtain ⟨-, ⟨σ, hS⟩, -⟩ := h
  have hL := hS.2.2
  have e7 : τ 7 = σ 7 := hL.lo (by decide) (by decide)
  have hk2 : 0 ≤ k ∧ k < σ 7 := by omega
  have hV := (SM_vs hS hk2).2.2
  rw [hV.ten, vsF_10 hk.1, hL.ten, LE_m hL hk2 (by decide)]
  rfl
theorem inF_g {N : Int} {τ : Int → Int} {k : Int} (h : GD N τ) (hN : N ≤ 999) (hk : 0 ≤ k ∧ k < τ 7) : GD (N + 1) (inF τ k) := by
  have h0 := h
  have h7 := gd_7 h
  have h10 := gd_10 h
  obtain ⟨a, ⟨σ, hS⟩, c⟩ := h
  have hL := hS.2.2
  have e7 : τ 7 = σ 7 := hL.lo (by decide) (by decide)
  refine ⟨by omega, ⟨_, SM_vs hS (by omega)⟩, fun j x y => ?_⟩
  rw [inF_out (by omega) (by decide)] at y
  have q := c j x y
  by_cases z : j = k
  · subst z
    rw [inF_m h0 hk (by decide), if_neg (by decide), if_pos rfl]
    split <;> omega
  · rw [inF_out (by omega) (by omega)]
    exact q
/-- a visit -/
theorem vs_all {N : Int} {τ : Int → Int} {k : Int} (h : GD N τ) (hN : N ≤ 999) (hk : 0 ≤ k ∧ k < τ 7) : GD (N + 1) (inF τ k) ∧ (inF τ k 7 = τ 7 ∧ inF τ k 6 = τ 6 ∧ inF τ k 3 = τ 3) ∧ blC (inF τ k) (inF τ k 7).toNat = blC τ (τ 7).toNat + bilA τ k ∧ inF τ k (11 + 13 * k + 8) = τ (11 + 13 * k + 8) + bilA τ k ∧ inF τ k (11 + 13 * k + 7) = 0 ∧ inF τ k (11 + 13 * k + 2) = 100 ∧ inF τ k (11 + 13 * k + 10) = τ (11 + 13 * k + 10) + 1 ∧ msA (inF τ k) k = msA τ k ∧ bilA (inF τ k) k = 0 ∧ wkA (inF τ k) k = τ 3 ∧ (τ (11 + 13 * k + 7) = 1 → inF τ k (11 + 13 * k + 6) = τ 10 + 1 ∧ inF τ k 10 = τ 10 + 1) ∧ (¬ τ (11 + 13 * k + 7) = 1 → inF τ k (11 + 13 * k + 6) = τ (11 + 13 * k + 6) ∧ inF τ k 10 = τ 10) := by
  have h7 := gd_7 h
  have hs := gd_s h
  have m (j : Int) (hj : 1 ≤ j ∧ j < 13) := inF_m h hk hj
  have e7 : inF τ k 7 = τ 7 := inF_out (by omega) (by decide)
  have e8 : inF τ k (11 + 13 * k + 8) = τ (11 + 13 * k + 8) + bilA τ k := m 8 (by decide)
  have e3 : inF τ k (11 + 13 * k + 3) = τ (11 + 13 * k + 3) := m 3 (by decide)
  have e4 : inF τ k (11 + 13 * k + 4) = τ (11 + 13 * k + 4) := m 4 (by decide)
  have e11 : inF τ k (11 + 13 * k + 11) = τ (11 + 13 * k + 3) := m 11 (by decide)
  have e12 : inF τ k (11 + 13 * k + 12) = τ (11 + 13 * k + 4) := m 12 (by decide)
  have e5 : inF τ k (11 + 13 * k + 5) = τ (11 + 13 * k + 5) := m 5 (by decide)
  have e1 : inF τ k (11 + 13 * k + 1) = τ (11 + 13 * k + 1) := m 1 (by decide)
  have e2 : inF τ k (11 + 13 * k + 2) = 100 := m 2 (by decide)
  have e9 : inF τ k (11 + 13 * k + 9) = 0 := m 9 (by decide)
  have e6 : inF τ k (11 + 13 * k + 6) = if τ (11 + 13 * k + 7) = 1 then τ 10 + 1 else τ (11 + 13 * k + 6) := m 6 (by decide)
  have s3 : inF τ k 3 = τ 3 := inF_out (by omega) (by decide)
  refine ⟨inF_g h hN hk, ⟨e7, inF_out (by omega) (by decide), s3⟩, ?_, e8, m 7 (by decide), e2, m 10 (by decide), ?_, ?_, ?_, fun q => ?_, fun q => ?_⟩
  · rw [e7]
    exact blC_one (fun i hi => inF_out (by omega) (by omega)) e8 _ hk.1 (by omega)
  · rw [msA_e, msA_e, e1, e3, e4, e5]
  · show (inF τ k (11 + 13 * k + 3) - inF τ k (11 + 13 * k + 11)) * inF τ k 4 + (inF τ k (11 + 13 * k + 4) - inF τ k (11 + 13 * k + 12)) * inF τ k 5 = 0
    rw [e3, e4, e11, e12, Int.sub_self, Int.sub_self, Int.zero_mul, Int.zero_mul]
    rfl
  · unfold wkA
    rw [e2, e9, s3, if_pos (by decide)]
    omega
  · rw [e6, inF_10 h hk, if_pos q, if_pos q]
    exact ⟨rfl, rfl⟩
  · rw [e6, inF_10 h hk, if_neg q, if_neg q]
    exact ⟨rfl, rfl⟩
/-- a meter that comes -/
theorem mt_all {N : Int} {τ : Int → Int} {k : Int} (h : GD N τ) (hN : N ≤ 999) (hw : wnM τ k = 0) : GD (N + 1) (amF τ k) ∧ (amF τ k 7 = τ 7 + 1 ∧ amF τ k 6 = τ 6) ∧ amF τ k (11 + 13 * τ 7 + 0) = (if τ 7 = 0 then -6 else k) ∧ amF τ k (11 + 13 * τ 7 + 6) = τ 10 + 1 ∧ amF τ k (11 + 13 * τ 7 + 2) = 100 := by
  have h0 := h
  have h7 := gd_7 h
  have h10 := gd_10 h
  have hw2 := wnM_0 hw h7
  obtain ⟨a, ⟨σ, hS⟩, c⟩ := h
  have hL := hS.2.2
  have e7 : τ 7 = σ 7 := hL.lo (by decide) (by decide)
  have r7 : amF τ k 7 = τ 7 + 1 := by rw [amF_at h7.1, if_pos rfl]
  have r6 : amF τ k 6 = τ 6 := by rw [amF_at h7.1, if_neg (by decide), if_neg (by omega), if_neg (by decide)]
  have rj (j : Int) (hj : 0 ≤ j ∧ j < 13) : amF τ k (11 + 13 * τ 7 + j) = bgM (if τ 7 = 0 then -6 else k) (τ 10 + 1) j := by
    rw [amF_at h7.1, if_neg (by omega), if_pos (by omega), show 11 + 13 * τ 7 + j - (11 + 13 * τ 7) = j by omega]
  refine ⟨⟨by omega, ⟨_, SM_com hS (by rw [← LE_wnM hL]; exact hw)⟩, fun j x y => ?_⟩, ⟨r7, r6⟩, rj 0 (by decide), rj 6 (by decide), rj 2 (by decide)⟩
  rw [r7] at y
  by_cases z : j = τ 7
  · rw [z, rj 6 (by decide)]
    show 1 ≤ τ 10 + 1
    omega
  · rw [amF_at h7.1, if_neg (by omega), if_neg (by omega), if_neg (by omega)]
    exact c j x (by omega)
/-- a load that comes -/
theorem ld_all {N : Int} {τ : Int → Int} {k w : Int} (h : GD N τ) (hw : wnL τ k w = 0) : GD N (alF τ k w) ∧ (alF τ k w 7 = τ 7 ∧ alF τ k w 6 = τ 6 ∧ alF τ k w 8 = τ 8 + 1) ∧ alF τ k w (102 + 3 * τ 8 + 0) = k ∧ alF τ k w (102 + 3 * τ 8 + 2) = 0 := by
  have h7 := gd_7 h
  have h8 := gd_8 h
  obtain ⟨a, ⟨σ, hS⟩, c⟩ := h
  have hL := hS.2.2
  have r7 : alF τ k w 7 = τ 7 := (up_n (by decide)).trans (inL_out (by omega))
  refine ⟨⟨a, ⟨_, SM_ld hS (by rw [← LE_wnL hL]; exact hw)⟩, fun j x y => ?_⟩, ⟨r7, (up_n (by decide)).trans (inL_out (by omega)), up_s _ _ _⟩, (up_n (by omega)).trans (inL_in (by decide)), (up_n (by omega)).trans (inL_in (by decide))⟩
  rw [r7] at y
  have e : alF τ k w (11 + 13 * j + 6) = τ (11 + 13 * j + 6) := (up_n (by omega)).trans (inL_out (by omega))
  rw [e]
  exact c j x y
theorem climb_z {σ : Int → Int} (hL : lOK σ) : ∀ (f : Nat) (m : Int), 0 ≤ m → m < σ 7 → m ≤ f → climb σ 0 f m = 0 := by
  intro f
  induction f with
  | zero => intro m a b c; show m = 0; omega
  | succ f ih =>
    intro m a b c
    by_cases q : 0 < m
    · rw [climb_go q]
      have := hL.2.2.1 m (by omega) b
      exact ih _ this.1 (by omega) (by omega)
    · rw [climb_stop (by omega)]
      omega
theorem swF_at {τ : Int → Int} {k i : Int} : swF τ k i = if i = 102 + 3 * k + 2 then (if τ (102 + 3 * k + 2) = 0 then 1 else 0) else τ i := by
  show inL τ k (up (lrec τ k) 2 (if τ (102 + 3 * k + 2) = 0 then 1 else 0)) i = _
  by_cases q : i = 102 + 3 * k + 2
  · rw [if_pos q, q, inL_in (by decide), up_s]
  · rw [if_neg q]
    by_cases z : i < 102 + 3 * k ∨ 102 + 3 * k + 3 ≤ i
    · exact inL_out z
    · unfold inL
      rw [if_pos (by omega), up_n (by omega)]
      show τ (102 + 3 * k + (i - (102 + 3 * k))) = τ i
      rw [show 102 + 3 * k + (i - (102 + 3 * k)) = i by omega]
theorem psum_z {τ : Int → Int} (hL : lOK τ) : ∀ n : Nat, (n : Int) ≤ τ 8 → psum τ 0 n = sm (fun i : Nat => if τ (102 + 3 * (i : Int) + 2) = 1 then τ (102 + 3 * (i : Int) + 1) else 0) n := by
  intro n
  induction n with
  | zero => intro _; rfl
  | succ n ih =>
    intro hn
    have h7 := hL.1
    have hb := hL.2.2.2 n (by omega) (by omega)
    have hc := climb_z hL 7 (τ (102 + 3 * (n : Int))) hb.1.1 hb.1.2 (by omega)
    show psum τ 0 n + (if τ (102 + 3 * (n : Int) + 2) = 1 ∧ climb τ 0 7 (τ (102 + 3 * (n : Int))) = 0 then τ (102 + 3 * (n : Int) + 1) else 0) = sm _ n + (if τ (102 + 3 * (n : Int) + 2) = 1 then τ (102 + 3 * (n : Int) + 1) else 0)
    rw [ih (by omega)]
    by_cases q : τ (102 + 3 * (n : Int) + 2) = 1
    · rw [if_pos ⟨q, hc⟩, if_pos q]
    · rw [if_neg (fun z => q z.1), if_neg q]
theorem sm_one {g g2 : Nat → Int} {k : Nat} {v : Int} (h : ∀ i : Nat, i ≠ k → g2 i = g i) (hk : g2 k = g k + v) : ∀ n : Nat, k < n → sm g2 n = sm g n + v := by
  intro n
  induction n with
  | zero => intro h; omega
  | succ n ih =>
    intro hn
    show sm g2 n + g2 n = sm g n + g n + v
    by_cases q : k = n
    · subst q
      rw [hk, sm_congr (g := g) k (fun i hi => h i (by omega))]
      omega
    · rw [ih (by omega), h n (by omega)]
      omega
/-- a load that is switched -/
theorem tn_all {N : Int} {τ : Int → Int} {k : Int} (h : GD N τ) (hk : 0 ≤ k ∧ k < τ 8) : GD N (swF τ k) ∧ (swF τ k 7 = τ 7 ∧ swF τ k 6 = τ 6 ∧ 0 < τ 7) ∧ swF τ k 8 = τ 8 ∧ swF τ k (102 + 3 * k + 1) = τ (102 + 3 * k + 1) ∧ (τ (102 + 3 * k + 2) = 0 → cpow (swF τ k) 0 = cpow τ 0 + τ (102 + 3 * k + 1)) ∧ (τ (102 + 3 * k + 2) = 1 → cpow (swF τ k) 0 = cpow τ 0 - τ (102 + 3 * k + 1)) := by
  have h0 := h
  have h7 := gd_7 h
  have h8 := gd_8 h
  have hl := gd_l h hk
  have hg := gd_g h
  obtain ⟨a, ⟨σ, hS⟩, c⟩ := h
  have hL := hS.2.2
  have e8 : τ 8 = σ 8 := hL.lo (by decide) (by decide)
  have lo (i : Int) (hi : i < 102) : swF τ k i = τ i := by rw [swF_at, if_neg (by omega)]
  have r8 : swF τ k 8 = τ 8 := lo 8 (by decide)
  have r7 : swF τ k 7 = τ 7 := lo 7 (by decide)
  have hG2 : GD N (swF τ k) := ⟨a, ⟨_, SM_tn hS (by omega)⟩, fun j x y => by
    rw [r7] at y
    rw [lo _ (by omega)]
    exact c j x y⟩
  have hg2 := gd_g hG2
  have r1 : swF τ k (102 + 3 * k + 1) = τ (102 + 3 * k + 1) := by rw [swF_at, if_neg (by omega)]
  have key (v : Int) (hv : (if (if τ (102 + 3 * k + 2) = 0 then (1 : Int) else 0) = 1 then τ (102 + 3 * k + 1) else 0) = (if τ (102 + 3 * k + 2) = 1 then τ (102 + 3 * k + 1) else 0) + v) : cpow (swF τ k) 0 = cpow τ 0 + v := by
    rw [cpow_eq hg2.1 (by omega), cpow_eq hg.1 (by omega)]
    unfold pwr
    rw [psum_z hg2.1 _ (by omega), psum_z hg.1 _ (by omega), r8]
    have ek : ((k.toNat : Nat) : Int) = k := by omega
    refine sm_one (k := k.toNat) (fun i hi => ?_) ?_ _ (by omega)
    · show (if swF τ k (102 + 3 * (i : Int) + 2) = 1 then swF τ k (102 + 3 * (i : Int) + 1) else 0) = (if τ (102 + 3 * (i : Int) + 2) = 1 then τ (102 + 3 * (i : Int) + 1) else 0)
      have z2 : swF τ k (102 + 3 * (i : Int) + 2) = τ (102 + 3 * (i : Int) + 2) := by rw [swF_at, if_neg (by omega)]
      have z1 : swF τ k (102 + 3 * (i : Int) + 1) = τ (102 + 3 * (i : Int) + 1) := by rw [swF_at, if_neg (by omega)]
      rw [z2, z1]
    · show (if swF τ k (102 + 3 * (k.toNat : Int) + 2) = 1 then swF τ k (102 + 3 * (k.toNat : Int) + 1) else 0) = (if τ (102 + 3 * (k.toNat : Int) + 2) = 1 then τ (102 + 3 * (k.toNat : Int) + 1) else 0) + v
      rw [ek, r1, swF_at, if_pos rfl]
      exact hv
  refine ⟨hG2, ⟨r7, lo 6 (by decide), by omega⟩, r8, r1, fun q => key _ ?_, fun q => ?_⟩
  · rw [if_pos q, if_pos rfl, if_neg (by omega)]
    omega
  · rw [Int.sub_eq_add_neg]
    refine key _ ?_
    rw [if_neg (show ¬ τ (102 + 3 * k + 2) = 0 by omega), if_neg (show ¬ (0 : Int) = 1 by decide), if_pos q]
    omega
/-- a seal that is broken -/
theorem tp_all {N : Int} {τ : Int → Int} {k : Int} (h : GD N τ) (hw : wnT τ k = 0) : GD N (bsF τ k) ∧ (bsF τ k 7 = τ 7 ∧ bsF τ k 6 = τ 6) ∧ bsF τ k (11 + 13 * k + 7) = 1 := by
  have hk := (wnT_0 hw).1
  have h7 := gd_7 h
  obtain ⟨a, ⟨σ, hS⟩, c⟩ := h
  have hL := hS.2.2
  have e7 : τ 7 = σ 7 := hL.lo (by decide) (by decide)
  have r7 : bsF τ k 7 = τ 7 := inM_out (by omega)
  have r77 : bsF τ k (11 + 13 * k + 7) = 1 := (inM_in (by decide)).trans (up_s _ _ _)
  refine ⟨⟨a, ⟨_, SM_tp hS (by omega)⟩, fun j x y => ?_⟩, ⟨r7, inM_out (by omega)⟩, r77⟩
  rw [r7] at y
  have q := c j x y
  by_cases z : j = k
  · subst z
    have e : bsF τ j (11 + 13 * j + 6) = τ (11 + 13 * j + 6) := (inM_in (by decide)).trans (up_n (by decide))
    rw [e]
    exact q
  · have e : bsF τ k (11 + 13 * j + 6) = τ (11 + 13 * j + 6) := inM_out (by omega)
    rw [e]
    exact q
/-- a setting -/
theorem st_all {N : Int} {τ : Int → Int} {k v : Int} (h : GD N τ) (hs : setOK k v) : GD N (up τ k v) ∧ (up τ k v 7 = τ 7 ∧ up τ k v 6 = τ 6) ∧ up τ k v k = v := by
  have hk := hs.1
  obtain ⟨a, ⟨σ, hS⟩, c⟩ := h
  have r7 : up τ k v 7 = τ 7 := up_n (by omega)
  refine ⟨⟨a, ⟨_, SM_set hS hs⟩, fun j x y => ?_⟩, ⟨r7, up_n (by omega)⟩, up_s _ _ _⟩
  rw [r7] at y
  rw [up_n (by omega)]
  exact c j x y
/-- what low() makes of an int -/
def lowA (v n : Int) : Int := v % 2147483648 % n
theorem lowA_rng (v : Int) {nn : Int} (h : 0 < nn) : 0 ≤ lowA v nn ∧ lowA v nn < nn := ⟨Int.emod_nonneg _ (by omega), Int.emod_lt_of_pos _ h⟩
theorem wnM_e {τ : Int → Int} {k : Int} (h7 : 0 ≤ τ 7 ∧ τ 7 ≤ 7) (hk : τ 7 = 0 ∨ (0 ≤ k ∧ k < τ 7)) : (τ 7 = 7 ∧ wnM τ k = -4) ∨ (τ 7 < 7 ∧ wnM τ k = 0) := by
  unfold wnM
  rw [if_neg (by omega)]
  split <;> omega
theorem wnL_e {τ : Int → Int} {k w : Int} (h8 : 0 ≤ τ 8 ∧ τ 8 ≤ 12) (hk : (τ 7 = 0 ∧ k = 0) ∨ (0 ≤ k ∧ k < τ 7)) (hw : 1 ≤ w ∧ w ≤ 4000) : (τ 7 = 0 ∧ wnL τ k w = -1) ∨ (0 < τ 7 ∧ τ 8 = 12 ∧ wnL τ k w = -4) ∨ (0 < τ 7 ∧ τ 8 < 12 ∧ wnL τ k w = 0) := by
  unfold wnL
  by_cases q : 0 ≤ k ∧ k < τ 7
  · rw [if_neg (fun z => z q), if_neg (fun z => z hw)]
    split <;> omega
  · rw [if_pos q]
    omega
theorem wnT_e {τ : Int → Int} {k : Int} (hk : (τ 7 = 0 ∧ k = 0) ∨ (0 ≤ k ∧ k < τ 7)) : (τ 7 = 0 ∧ wnT τ k = -1) ∨ (0 < τ 7 ∧ τ (11 + 13 * k + 7) = 1 ∧ wnT τ k = -5) ∨ (0 < τ 7 ∧ ¬ τ (11 + 13 * k + 7) = 1 ∧ wnT τ k = 0) := by
  unfold wnT
  by_cases q : 0 ≤ k ∧ k < τ 7
  · rw [if_neg (fun z => z q)]
    split <;> omega
  · rw [if_pos q]
    omega
theorem wnP_e {τ : Int → Int} {w : Int} (hw : 1 ≤ w ∧ w ≤ 1000) (ht : τ 6 + w ≤ 99999) : wnP τ w = 0 := by
  unfold wnP
  rw [if_neg (by omega), if_neg (by omega)]
theorem set_ok {k v : Int} (hk : 0 ≤ k ∧ k ≤ 5) (h1 : k = 1 → 0 ≤ v ∧ v ≤ 9) (h2 : k = 2 → 0 ≤ v ∧ v ≤ 1) (h3 : k = 3 → 100 ≤ v ∧ v ≤ 5000) (h4 : k ≠ 1 → k ≠ 2 → k ≠ 3 → 0 ≤ v ∧ v ≤ 99) : setOK k v := by
  refine ⟨hk, ?_⟩
  unfold loS hiS
  by_cases q1 : k = 1
  · rw [if_neg (by omega), if_pos q1]; exact h1 q1
  · by_cases q2 : k = 2
    · rw [if_neg (by omega), if_neg q1, if_pos q2]; exact h2 q2
    · by_cases q3 : k = 3
      · rw [if_pos q3, if_neg q1, if_neg q2, if_pos q3]; exact h3 q3
      · rw [if_neg q3, if_neg q1, if_neg q2, if_neg q3]; exact h4 q1 q2 q3
/-- the law's world at a turn of its loop -/
def DW (D : va_G) (cs : Nat → ClassId) (a : Int → Nat) (N T : Int) (H : Heap) : Prop := ∃ (τ pd : Int → Int) (ln : Int), PW D cs a τ pd ln H ∧ GD N τ ∧ τ 6 ≤ T
