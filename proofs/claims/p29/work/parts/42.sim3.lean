/-! class and reference alike on all places that live -/
def LIV (σ : Int → Int) (i : Int) : Prop := (0 ≤ i ∧ i < 9) ∨ i = 10 ∨ (12 ≤ i ∧ i < 11 + 13 * σ 7) ∨ (102 ≤ i ∧ i < 102 + 3 * σ 8)
def LE (σ τ : Int → Int) : Prop := (∀ i : Int, LIV σ i → τ i = σ i) ∧ (0 < σ 7 → τ 11 = -6)
/-- the reference's place 9 -/
def BS (σ : Int → Int) : Prop := σ 9 = blC σ (σ 7).toNat
theorem LE.lo {σ τ : Int → Int} (h : LE σ τ) {i : Int} (h0 : 0 ≤ i) (h1 : i < 9) : τ i = σ i := h.1 i (Or.inl ⟨h0, h1⟩)
theorem LE.ten {σ τ : Int → Int} (h : LE σ τ) : τ 10 = σ 10 := h.1 10 (Or.inr (Or.inl rfl))
theorem LE.me {σ τ : Int → Int} (h : LE σ τ) {i : Int} (h0 : 12 ≤ i) (h1 : i < 11 + 13 * σ 7) : τ i = σ i := h.1 i (Or.inr (Or.inr (Or.inl ⟨h0, h1⟩)))
theorem LE.ld {σ τ : Int → Int} (h : LE σ τ) {i : Int} (h0 : 102 ≤ i) (h1 : i < 102 + 3 * σ 8) : τ i = σ i := h.1 i (Or.inr (Or.inr (Or.inr ⟨h0, h1⟩)))
theorem LE.re {σ τ : Int → Int} (h : LE σ τ) {k : Int} (h0 : 0 ≤ k) (h1 : k < σ 7) : RE (mrec σ k) (mrec τ k) := fun j a b => h.me (by omega) (by omega)
theorem LE.se {σ τ : Int → Int} (h : LE σ τ) : SE (sset σ) (sset τ) := fun i a b => by
  unfold sset
  rw [if_pos (by omega), if_pos (by omega), h.lo a (by omega)]
theorem LE_lOK {σ τ : Int → Int} (h : LE σ τ) (hL : lOK σ) : lOK τ := by
  obtain ⟨h1, h2, h3, h4⟩ := hL
  have e7 := h.lo (i := 7) (by decide) (by decide)
  have e8 := h.lo (i := 8) (by decide) (by decide)
  refine ⟨by rw [e7]; exact h1, by rw [e8]; exact h2, fun i a b => ?_, fun j a b => ?_⟩
  · rw [e7] at b
    rw [h.me (i := 11 + 13 * i) (by omega) (by omega)]
    exact h3 i a b
  · rw [e8] at b
    rw [h.ld (i := 102 + 3 * j) (by omega) (by omega), h.ld (i := 102 + 3 * j + 1) (by omega) (by omega), h.ld (i := 102 + 3 * j + 2) (by omega) (by omega), e7]
    exact h4 j a b
theorem LE_gOK {σ τ : Int → Int} (h : LE σ τ) (hg : gOK σ 0) : gOK τ 0 := by
  have e7 := h.lo (i := 7) (by decide) (by decide)
  refine ⟨LE_lOK h hg.1, sOK_of hg.2.1 (h.lo (by decide) (by decide)) (h.lo (by decide) (by decide)) (h.lo (by decide) (by decide)) (h.lo (by decide) (by decide)) (by rw [h.lo (i := 0 + 6) (by decide) (by decide)]; exact hg.2.1.2.2.2.2), fun k a b => ?_⟩
  rw [e7] at b
  have hd := dOK_0 (hg.2.2 k a b)
  apply dOK_of0
  rw [h.me (i := 11 + 13 * k + 1) (by omega) (by omega), h.me (i := 11 + 13 * k + 2) (by omega) (by omega), h.me (i := 11 + 13 * k + 9) (by omega) (by omega), h.me (i := 11 + 13 * k + 7) (by omega) (by omega)]
  exact hd
theorem climb_lt {σ τ : Int → Int} (hL : lOK σ) {o : Int} (ho : 0 ≤ o) (h : ∀ m : Int, 1 ≤ m → m < σ 7 → τ (11 + 13 * m) = σ (11 + 13 * m)) : ∀ (f : Nat) (k : Int), k < σ 7 → climb τ o f k = climb σ o f k := by
  intro f
  induction f with
  | zero => intro k _; rfl
  | succ f ih =>
    intro k hk
    unfold climb
    by_cases e : o < k
    · have := hL.2.2.1 k (by omega) hk
      rw [if_pos e, if_pos e, h k (by omega) hk]
      exact ih _ (by omega)
    · rw [if_neg e, if_neg e]
theorem LE_climb {σ τ : Int → Int} (h : LE σ τ) (hL : lOK σ) {o : Int} (ho : 0 ≤ o) (f : Nat) {k : Int} (hk : k < σ 7) : climb τ o f k = climb σ o f k := climb_lt hL ho (fun m a b => h.me (by omega) (by omega)) f k hk
theorem LE_pwr {σ τ : Int → Int} (h : LE σ τ) (hL : lOK σ) {o : Int} (ho : 0 ≤ o) : pwr τ o = pwr σ o := by
  have h8 := hL.2.1
  have key : ∀ n : Nat, (n : Int) ≤ σ 8 → psum τ o n = psum σ o n := by
    intro n
    induction n with
    | zero => intro _; rfl
    | succ n ih =>
      intro hn
      have hl := (hL.2.2.2 n (by omega) (by omega)).1
      unfold psum
      rw [ih (by omega), h.ld (i := 102 + 3 * (n : Int) + 2) (by omega) (by omega), h.ld (i := 102 + 3 * (n : Int) + 1) (by omega) (by omega), h.ld (i := 102 + 3 * (n : Int)) (by omega) (by omega), LE_climb h hL ho 7 hl.2]
  unfold pwr
  rw [h.lo (i := 8) (by decide) (by decide)]
  exact key _ (by omega)
theorem LE_cpow {σ τ : Int → Int} (h : LE σ τ) (hL : lOK σ) {o : Int} (ho : 0 ≤ o ∧ o < σ 7) : cpow τ o = pwr σ o := by
  rw [cpow_eq (LE_lOK h hL) ⟨ho.1, by rw [h.lo (i := 7) (by decide) (by decide)]; exact ho.2⟩, LE_pwr h hL ho.1]
theorem LE_fed {σ τ : Int → Int} (h : LE σ τ) (hL : lOK σ) {o : Int} (ho : 0 ≤ o ∧ o < σ 7) : fedC τ o = fedS σ o (σ 7).toNat := by
  have h7 := hL.1
  have e7 := h.lo (i := 7) (by decide) (by decide)
  rw [fed_eq (LE_lOK h hL) ⟨ho.1, by rw [e7]; exact ho.2⟩, e7]
  have key : ∀ n : Nat, (n : Int) ≤ σ 7 → fedS τ o n = fedS σ o n := by
    intro n
    induction n with
    | zero => intro _; rfl
    | succ n ih =>
      intro hn
      unfold fedS
      rw [ih (by omega), LE_climb h hL ho.1 7 (by omega)]
  exact key _ (by omega)
/-! changes -/
theorem inM_at {τ f : Int → Int} {e i : Int} : inM τ e f i = if 11 + 13 * e ≤ i ∧ i < 11 + 13 * e + 13 then f (i - (11 + 13 * e)) else τ i := rfl
theorem LE_set {σ τ : Int → Int} {k v : Int} (h : LE σ τ) (hk : 0 ≤ k ∧ k ≤ 5) : LE (up σ k v) (up τ k v) := by
  refine ⟨fun i hi => ?_, fun q => ?_⟩
  · unfold LIV at hi
    rw [up_n (k := 7) (by omega), up_n (k := 8) (by omega)] at hi
    by_cases e : i = k
    · rw [up_e e, up_e e]
    · rw [up_n e, up_n e]; exact h.1 i hi
  · rw [up_n (by omega)] at q
    rw [up_n (by omega)]; exact h.2 q
theorem amF_at {τ : Int → Int} {k : Int} (h : 0 ≤ τ 7) (i : Int) : amF τ k i = if i = 7 then τ 7 + 1 else if 11 + 13 * τ 7 ≤ i ∧ i < 11 + 13 * τ 7 + 13 then bgM (if τ 7 = 0 then -6 else k) (τ 10 + 1) (i - (11 + 13 * τ 7)) else if i = 10 then τ 10 + 1 else τ i := rfl
theorem LE_com {σ τ : Int → Int} {k : Int} (h : LE σ τ) (h7 : 0 ≤ σ 7) : LE (comF σ k) (amF τ k) := by
  have e7 := h.lo (i := 7) (by decide) (by decide)
  have e10 := h.ten
  refine ⟨fun i hi => ?_, fun q => ?_⟩
  · unfold LIV at hi
    rw [comF_7 h7, comF_at (i := 8) h7, if_neg (by decide), if_neg (by decide), if_neg (by omega), if_neg (by omega), if_neg (by omega), if_neg (by omega)] at hi
    rw [comF_at h7, amF_at (by omega), e7, e10]
    by_cases i7 : i = 7
    · rw [if_pos i7, if_pos i7]
    · rw [if_neg i7, if_neg i7]
      by_cases i10 : i = 10
      · rw [if_pos i10, if_neg (by omega), if_pos i10]
      · rw [if_neg i10]
        by_cases r : 11 + 13 * σ 7 ≤ i ∧ i < 11 + 13 * σ 7 + 13
        · rw [if_pos r, if_neg i10]
          unfold bgM
          by_cases j6 : i = 11 + 13 * σ 7 + 6
          · rw [if_pos j6, if_neg (show ¬ i - (11 + 13 * σ 7) = 0 by omega), if_neg (show ¬ i - (11 + 13 * σ 7) = 2 by omega), if_pos (show i - (11 + 13 * σ 7) = 6 by omega)]
          · rw [if_neg j6]
            by_cases j2 : i = 11 + 13 * σ 7 + 2
            · rw [if_pos j2, if_neg (show ¬ i - (11 + 13 * σ 7) = 0 by omega), if_pos (show i - (11 + 13 * σ 7) = 2 by omega)]
            · rw [if_neg j2]
              by_cases j0 : i = 11 + 13 * σ 7
              · rw [if_pos j0, if_pos (show i - (11 + 13 * σ 7) = 0 by omega), if_neg (show ¬ σ 7 = 0 by omega), if_neg (show ¬ σ 7 = 0 by omega)]
              · rw [if_neg j0, if_pos r, if_neg (show ¬ i - (11 + 13 * σ 7) = 0 by omega), if_neg (show ¬ i - (11 + 13 * σ 7) = 2 by omega), if_neg (show ¬ i - (11 + 13 * σ 7) = 6 by omega)]
        · rw [if_neg r, if_neg i10, if_neg (by omega), if_neg (by omega), if_neg (by omega), if_neg r]
          exact h.1 i (by unfold LIV; omega)
  · rw [amF_at (by omega), e7, if_neg (by decide)]
    by_cases z : σ 7 = 0
    · rw [if_pos (by omega), if_pos z, z]; rfl
    · rw [if_neg (by omega), if_neg (by decide)]
      exact h.2 (by omega)
theorem LE_ld {σ τ : Int → Int} {k w : Int} (h : LE σ τ) (h7 : 0 ≤ σ 7 ∧ σ 7 ≤ 7) (h8 : 0 ≤ σ 8 ∧ σ 8 < 12) : LE (ldF σ k w) (alF τ k w) := by
  have e8 := h.lo (i := 8) (by decide) (by decide)
  have at2 : ∀ i : Int, alF τ k w i = if i = 8 then τ 8 + 1 else if 102 + 3 * τ 8 ≤ i ∧ i < 102 + 3 * τ 8 + 3 then bgL k w (i - (102 + 3 * τ 8)) else τ i := fun i => by
    unfold alF up
    by_cases q : i = 8
    · rw [if_pos q, if_pos q]
    · rw [if_neg q, if_neg q]; rfl
  refine ⟨fun i hi => ?_, fun q => ?_⟩
  · unfold LIV at hi
    rw [ldF_at h8.1, ldF_at (i := 8) h8.1, if_pos rfl, if_neg (by decide), if_neg (by omega), if_neg (by omega), if_neg (by omega)] at hi
    rw [ldF_at h8.1, at2, e8]
    by_cases i8 : i = 8
    · rw [if_pos i8, if_pos i8]
    · rw [if_neg i8, if_neg i8]
      by_cases r : 102 + 3 * σ 8 ≤ i ∧ i < 102 + 3 * σ 8 + 3
      · rw [if_pos r]
        unfold bgL
        rcases (show i = 102 + 3 * σ 8 ∨ i = 102 + 3 * σ 8 + 1 ∨ i = 102 + 3 * σ 8 + 2 by omega) with q | q | q
        · rw [if_pos (by omega), if_neg (by omega), if_neg (by omega), if_pos q]
        · rw [if_neg (by omega), if_pos (by omega), if_neg (by omega), if_pos q]
        · rw [if_neg (by omega), if_neg (by omega), if_pos q]
      · rw [if_neg r, if_neg (by omega), if_neg (by omega), if_neg (by omega)]
        exact h.1 i (by unfold LIV; omega)
  · rw [ldF_lo h8.1 (by decide) (by omega)] at q
    rw [at2, e8, if_neg (by decide), if_neg (by omega)]
    exact h.2 q
theorem LE_tn {σ τ : Int → Int} {k : Int} (h : LE σ τ) (h7 : 0 ≤ σ 7 ∧ σ 7 ≤ 7) (hk : 0 ≤ k ∧ k < σ 8) (h01 : σ (102 + 3 * k + 2) = 0 ∨ σ (102 + 3 * k + 2) = 1) : LE (tnF σ k) (swF τ k) := by
  have e := h.ld (i := 102 + 3 * k + 2) (by omega) (by omega)
  have at2 : ∀ i : Int, swF τ k i = if i = 102 + 3 * k + 2 then (if τ (102 + 3 * k + 2) = 0 then 1 else 0) else τ i := fun i => by
    unfold swF inL
    by_cases q : i = 102 + 3 * k + 2
    · rw [if_pos q, if_pos (by omega), up_e (by omega)]
    · rw [if_neg q]
      by_cases r : 102 + 3 * k ≤ i ∧ i < 102 + 3 * k + 3
      · rw [if_pos r, up_n (by omega)]
        show τ (102 + 3 * k + (i - (102 + 3 * k))) = τ i
        congr 1; omega
      · rw [if_neg r]
  refine ⟨fun i hi => ?_, fun q => ?_⟩
  · unfold LIV tnF at hi
    rw [up_n (k := 7) (by omega), up_n (k := 8) (by omega)] at hi
    rw [at2, e]
    unfold tnF
    by_cases q : i = 102 + 3 * k + 2
    · rw [if_pos q, up_e q]
      rcases h01 with w | w <;> rw [w] <;> rfl
    · rw [if_neg q, up_n q]
      exact h.1 i hi
  · unfold tnF at q
    rw [up_n (by omega)] at q
    rw [at2, if_neg (by omega)]
    exact h.2 q
theorem mrec_sub {τ : Int → Int} {k i : Int} : mrec τ k (i - (11 + 13 * k)) = τ i := by
  unfold mrec
  congr 1; omega
theorem LE_tp {σ τ : Int → Int} {k : Int} (h : LE σ τ) (hk : 0 ≤ k ∧ k < σ 7) : LE (tpF σ k) (bsF τ k) := by
  have at2 : ∀ i : Int, bsF τ k i = if i = 11 + 13 * k + 7 then 1 else τ i := fun i => by
    unfold bsF
    rw [inM_at]
    by_cases q : i = 11 + 13 * k + 7
    · rw [if_pos q, if_pos (by omega), up_e (by omega)]
    · rw [if_neg q]
      by_cases r : 11 + 13 * k ≤ i ∧ i < 11 + 13 * k + 13
      · rw [if_pos r, up_n (by omega), mrec_sub]
      · rw [if_neg r]
  refine ⟨fun i hi => ?_, fun q => ?_⟩
  · unfold LIV tpF at hi
    rw [up_n (k := 7) (by omega), up_n (k := 8) (by omega)] at hi
    rw [at2]
    unfold tpF
    by_cases q : i = 11 + 13 * k + 7
    · rw [if_pos q, up_e (by omega)]
    · rw [if_neg q, up_n (by omega)]
      exact h.1 i hi
  · unfold tpF at q
    rw [up_n (by omega)] at q
    rw [at2, if_neg (by omega)]
    exact h.2 q
theorem LE_bill {σ τ : Int → Int} {k : Int} (h : LE σ τ) (hk : 0 ≤ k ∧ k < σ 7) : owS (mrec τ k) τ = billS σ k := by
  unfold owS billS
  have r := h.re hk.1 hk.2
  have z : (0 : Int) + 11 = 11 := rfl
  rw [r 3 (by decide) (by decide), r 11 (by decide) (by decide), r 4 (by decide) (by decide), r 12 (by decide) (by decide), h.lo (i := 4) (by decide) (by decide), h.lo (i := 5) (by decide) (by decide), z, Int.mul_comm, Int.mul_comm (mrec σ k 4 - mrec σ k 12)]
  rfl
theorem LE_vs {σ τ : Int → Int} {k : Int} (h : LE σ τ) (hk : 0 ≤ k ∧ k < σ 7) (h7 : σ 7 ≤ 7) (h01 : σ (11 + 13 * k + 7) = 0 ∨ σ (11 + 13 * k + 7) = 1) : LE (vsF σ k) (inF τ k) := by
  have eb := LE_bill h hk
  have e7 := h.me (i := 11 + 13 * k + 7) (by omega) (by omega)
  have e10 := h.ten
  have a10 : inA τ k 10 = τ 10 := if_neg (by omega)
  have hA : ∀ j : Int, 0 ≤ j → j < 13 → inA τ k (11 + 13 * k + j) = stM (mrec τ k) (owS (mrec τ k) τ) j := fun j a b => inM_in ⟨a, b⟩
  have hO : ∀ i : Int, i < 11 + 13 * k ∨ 11 + 13 * k + 13 ≤ i → inA τ k i = τ i := fun i a => inM_out a
  have s7 : stM (mrec τ k) (owS (mrec τ k) τ) 7 = τ (11 + 13 * k + 7) := (hA 7 (by decide) (by decide)).symm.trans inA_7
  have out : ∀ i : Int, i ≠ 10 → (i < 11 + 13 * k ∨ 11 + 13 * k + 13 ≤ i) → inF τ k i = τ i := fun i a b => by
    unfold inF
    split
    · exact hO i b
    · rw [inM_out b]
      unfold inB
      rw [up_n a, hO i b]
  have ten : inF τ k 10 = if τ (11 + 13 * k + 7) = 0 then τ 10 else τ 10 + 1 := by
    unfold inF
    rw [inA_7]
    split
    · exact a10
    · rw [inM_out (by omega)]
      unfold inB
      rw [up_s, a10]
  have ins : ∀ j : Int, 0 ≤ j → j < 13 → inF τ k (11 + 13 * k + j) = if τ (11 + 13 * k + 7) = 0 then stM (mrec τ k) (owS (mrec τ k) τ) j else if j = 6 then τ 10 + 1 else if j = 7 then 0 else stM (mrec τ k) (owS (mrec τ k) τ) j := fun j a b => by
    unfold inF
    rw [inA_7]
    split
    · exact hA j a b
    · rw [inM_in ⟨a, b⟩]
      unfold mdM
      have eB : inB τ k 10 = τ 10 + 1 := by unfold inB; rw [up_s, a10]
      rw [eB]
      by_cases j6 : j = 6
      · rw [if_pos j6, up_e j6]
      · rw [if_neg j6, up_n j6]
        by_cases j7 : j = 7
        · rw [if_pos j7, up_e j7]
        · rw [if_neg j7, up_n j7]
          show inB τ k (11 + 13 * k + j) = _
          unfold inB
          rw [up_n (by omega), hA j a b]
  have v7 : vsF σ k 7 = σ 7 := vsF_lo hk.1 (by decide) (by decide) (by omega)
  have v8 : vsF σ k 8 = σ 8 := vsF_lo hk.1 (by decide) (by decide) (by omega)
  refine ⟨fun i hi => ?_, fun q => ?_⟩
  · unfold LIV at hi
    rw [v7, v8] at hi
    by_cases i10 : i = 10
    · rw [i10, ten, vsF_10 hk.1, e7, e10, show (0 : Int) + 11 = 11 from rfl]
      rcases h01 with w | w <;> rw [w] <;> rfl
    · by_cases r : i < 11 + 13 * k ∨ 11 + 13 * k + 13 ≤ i
      · rw [out i i10 r, vsF_lo hk.1 (by omega) i10 (by omega)]
        exact h.1 i hi
      · obtain ⟨j, rfl⟩ : ∃ j, i = 11 + 13 * k + j := ⟨i - (11 + 13 * k), by omega⟩
        have hm := h.1 (11 + 13 * k + j) (by unfold LIV; omega)
        have g := fun (x : Int) (a : 1 ≤ x) (b : x < 13) => h.re hk.1 hk.2 x a b
        rw [ins j (by omega) (by omega), vsF_m hk.1 (by omega), e7, e10]
        have g8 : mrec τ k 8 = σ (11 + 13 * k + 8) := g 8 (by decide) (by decide)
        have g10 : mrec τ k 10 = σ (11 + 13 * k + 10) := g 10 (by decide) (by decide)
        have g3 : mrec τ k 3 = σ (11 + 13 * k + 3) := g 3 (by decide) (by decide)
        have g4 : mrec τ k 4 = σ (11 + 13 * k + 4) := g 4 (by decide) (by decide)
        have g6 : mrec τ k 6 = σ (11 + 13 * k + 6) := g 6 (by decide) (by decide)
        have g7 : mrec τ k 7 = σ (11 + 13 * k + 7) := g 7 (by decide) (by decide)
        have hst : stM (mrec τ k) (owS (mrec τ k) τ) j = if j = 10 then σ (11 + 13 * k + 10) + 1 else if j = 9 then 0 else if j = 2 then 100 else if j = 8 then σ (11 + 13 * k + 8) + billS σ k else if j = 12 then σ (11 + 13 * k + 4) else if j = 11 then σ (11 + 13 * k + 3) else τ (11 + 13 * k + j) := by
          unfold stM
          rw [g8, g10, g3, g4, eb]
          by_cases j9 : j = 9
          · rw [up_e j9, if_neg (by omega), if_pos j9]
          · rw [up_n j9]
            by_cases j2 : j = 2
            · rw [up_e j2, if_neg (by omega), if_neg j9, if_pos j2]
            · rw [up_n j2]
              by_cases j10 : j = 10
              · rw [up_e j10, if_pos j10]
              · rw [up_n j10, if_neg j10, if_neg j9, if_neg j2]
                by_cases j12 : j = 12
                · rw [up_e j12, if_neg (by omega), if_pos j12]
                · rw [up_n j12]
                  by_cases j11 : j = 11
                  · rw [up_e j11, if_neg (by omega), if_neg j12, if_pos j11]
                  · rw [up_n j11]
                    by_cases j8 : j = 8
                    · rw [up_e j8, if_pos j8]
                    · rw [up_n j8, if_neg j8, if_neg j12, if_neg j11]; rfl
        rw [hst, hm]
        rcases h01 with w | w
        · rw [w, if_pos rfl]
          by_cases j7 : j = 7
          · subst j7; rw [if_pos rfl, if_neg (by decide), if_neg (by decide), if_neg (by decide), if_neg (by decide), if_neg (by decide), if_neg (by decide), if_neg (by decide), w]
          · rw [if_neg j7]
            by_cases j6 : j = 6
            · subst j6; rw [if_pos rfl, if_neg (by decide), if_neg (by decide), if_neg (by decide), if_neg (by decide), if_neg (by decide), if_neg (by decide), if_neg (by decide)]
            · rw [if_neg j6]
        · rw [w, if_neg (by decide)]
          by_cases j7 : j = 7
          · subst j7; rw [if_neg (by decide), if_pos rfl, if_pos rfl, if_pos rfl]
          · rw [if_neg j7, if_neg j7]
            by_cases j6 : j = 6
            · subst j6; rw [if_pos rfl, if_pos rfl, if_pos rfl]
            · rw [if_neg j6, if_neg j6]
  · rw [v7] at q
    by_cases z : k = 0
    · subst z
      have := ins 0 (by decide) (by decide)
      rw [show (11 : Int) + 13 * 0 + 0 = 11 from rfl] at this
      rw [this]
      have e11 : stM (mrec τ 0) (owS (mrec τ 0) τ) 0 = -6 := h.2 q
      split
      · exact e11
      · exact e11
    · rw [out 11 (by decide) (by omega)]
      exact h.2 q
