/-! the automaton of the Grammar finds the faults that the reference finds -/
def fo (pd : Int → Int) (ln q k : Int) : Int := fO pd ln (ln - q).toNat q k
def fin (pd : Int → Int) (ln q : Int) : Int := if q = ln then -6 else if cdS pd ln q = 59 then fo pd ln (q + 1) 1 else q
section GRA
variable {pd : Int → Int} {ln q : Int}
theorem fo_end (k : Int) (h : q = ln) : fo pd ln q k = if k = 2 ∨ (6 ≤ k ∧ k ≤ 8) ∨ k = 10 then -6 else q := by
  unfold fo
  rw [show (ln - q).toNat = 0 by omega]
  rfl
theorem fo_step (k : Int) (h0 : 0 ≤ q) (h : q < ln) : fo pd ln q k = if stA k (pd q) = 0 then q else fo pd ln (q + 1) (stA k (pd q)) := by
  unfold fo
  obtain ⟨n, hn⟩ : ∃ n, (ln - q).toNat = n + 1 := ⟨(ln - q).toNat - 1, by omega⟩
  rw [hn, show (ln - (q + 1)).toNat = n by omega]
  have e : sgA pd ln q = pd q := if_pos ⟨h0, h⟩
  show (if stA k (sgA pd ln q) = 0 then q else _) = _
  rw [e]
theorem stA_1 (s : Int) : stA 1 s = if s = 59 then 0 else nmA s := by unfold stA; simp
theorem stA_2 (s : Int) : stA 2 s = if s = 59 then 1 else ifD s 10 := by unfold stA; simp
theorem stA_3 (s : Int) : stA 3 s = if s = 59 then 0 else ifD s 4 := by unfold stA; simp
theorem stA_4 (s : Int) : stA 4 s = if s = 59 then 0 else if s = 61 then 5 else 0 := by unfold stA; simp
theorem stA_5 (s : Int) : stA 5 s = if s = 59 then 0 else if s = 48 then 10 else ifD s 6 := by unfold stA; simp
theorem stA_6 (s : Int) : stA 6 s = if s = 59 then 1 else ifD s 7 := by unfold stA; simp
theorem stA_7 (s : Int) : stA 7 s = if s = 59 then 1 else ifD s 8 := by unfold stA; simp
theorem stA_8 (s : Int) : stA 8 s = if s = 59 then 1 else ifD s 10 := by unfold stA; simp
theorem stA_9 (s : Int) : stA 9 s = if s = 59 then 0 else ifD s 10 := by unfold stA; simp
theorem stA_10 (s : Int) : stA 10 s = if s = 59 then 1 else 0 := by unfold stA; simp
theorem dgS_ge (h : ¬ q < ln) : dgS pd ln q = -1 := if_neg (fun w => h w.1)
theorem cdS_ge (h : ¬ q < ln) : cdS pd ln q = -1 := if_neg h
theorem cdS_pd (h : q < ln) : cdS pd ln q = pd q := if_pos h
theorem dgS_d (h : q < ln) (hd : 48 ≤ pd q ∧ pd q ≤ 57) : dgS pd ln q = pd q - 48 := if_pos ⟨h, hd.1, hd.2⟩
theorem dgS_n (hd : ¬ (48 ≤ pd q ∧ pd q ≤ 57)) : dgS pd ln q = -1 := if_neg (fun w => hd ⟨w.2.1, w.2.2⟩)
theorem fo_10 (h0 : 0 ≤ q) (h1 : q ≤ ln) : fo pd ln q 10 = fin pd ln q := by
  unfold fin
  by_cases e : q = ln
  · rw [if_pos e, fo_end 10 e]; rfl
  · rw [if_neg e, fo_step 10 h0 (by omega), stA_10, cdS_pd (by omega)]
    by_cases w : pd q = 59
    · rw [if_pos w, if_pos w]; rfl
    · rw [if_neg w, if_neg w]; rfl
theorem fo_may (k t : Int) (hk : k = 2 ∨ (6 ≤ k ∧ k ≤ 8)) (hs : ∀ s : Int, stA k s = if s = 59 then 1 else ifD s t) (ht : 0 < t) (h0 : 0 ≤ q) (h1 : q ≤ ln) : fo pd ln q k = if dgS pd ln q < 0 then fin pd ln q else fo pd ln (q + 1) t := by
  unfold fin
  by_cases e : q = ln
  · rw [dgS_ge (by omega), if_pos (by decide), if_pos e, fo_end k e, if_pos (by omega)]
  · rw [fo_step k h0 (by omega), hs]
    by_cases w : pd q = 59
    · rw [if_pos w, dgS_n (by omega), if_pos (show (-1 : Int) < 0 by decide), if_neg e, cdS_pd (by omega), if_pos w]; rfl
    · rw [if_neg w]
      unfold ifD
      by_cases d : 48 ≤ pd q ∧ pd q ≤ 57
      · rw [if_pos d, if_neg (by omega), dgS_d (by omega) d, if_neg (by omega)]
      · rw [if_neg d, if_pos rfl, dgS_n d, if_pos (show (-1 : Int) < 0 by decide), if_neg e, cdS_pd (by omega), if_neg w]
theorem dig_lt (h : ¬ dgS pd ln q < 0) : q < ln := by
  unfold dgS at h
  split at h
  · rename_i w; exact w.1
  · omega
theorem fo_num (h0 : 0 ≤ q) (h1 : q ≤ ln) : fo pd ln q 5 = if nend pd ln q < 0 then q else fin pd ln (nend pd ln q) := by
  by_cases e : q = ln
  · have : nend pd ln q = -1 - q := if_pos (by rw [dgS_ge (by omega)]; decide)
    rw [this, if_pos (by omega), fo_end 5 e, if_neg (by omega)]
  · rw [fo_step 5 h0 (by omega), stA_5]
    by_cases d : 48 ≤ pd q ∧ pd q ≤ 57
    · have hd := dgS_d (pd := pd) (ln := ln) (q := q) (by omega) d
      rw [if_neg (show ¬ pd q = 59 by omega)]
      by_cases z : pd q = 48
      · rw [if_pos z, if_neg (by decide), fo_10 (by omega) (by omega)]
        have : nend pd ln q = q + 1 := by unfold nend; rw [if_neg (by omega), if_pos (by omega)]
        rw [this, if_neg (by omega)]
      · rw [if_neg z]
        unfold ifD
        rw [if_pos d, if_neg (by decide), fo_may 6 7 (by decide) stA_6 (by decide) (by omega) (by omega)]
        by_cases d1 : dgS pd ln (q + 1) < 0
        · have : nend pd ln q = q + 1 := by unfold nend; rw [if_neg (by omega), if_pos (by omega)]
          rw [if_pos d1, this, if_neg (by omega)]
        · have l1 := dig_lt d1
          rw [if_neg d1, fo_may 7 8 (by decide) stA_7 (by decide) (by omega) (by omega), show q + 1 + 1 = q + 2 by omega]
          by_cases d2 : dgS pd ln (q + 2) < 0
          · have : nend pd ln q = q + 2 := by unfold nend; rw [if_neg (by omega), if_neg (by omega), if_pos d2]
            rw [if_pos d2, this, if_neg (by omega)]
          · have l2 := dig_lt d2
            rw [if_neg d2, fo_may 8 10 (by decide) stA_8 (by decide) (by omega) (by omega), show q + 2 + 1 = q + 3 by omega]
            by_cases d3 : dgS pd ln (q + 3) < 0
            · have : nend pd ln q = q + 3 := by unfold nend; rw [if_neg (by omega), if_neg (by omega), if_neg d2, if_pos d3]
              rw [if_pos d3, this, if_neg (by omega)]
            · have l3 := dig_lt d3
              have : nend pd ln q = q + 4 := by unfold nend; rw [if_neg (by omega), if_neg (by omega), if_neg d2, if_neg d3]
              rw [if_neg d3, this, if_neg (by omega), fo_10 (by omega) (by omega), show q + 3 + 1 = q + 4 by omega]
    · have hd := dgS_n (pd := pd) (ln := ln) (q := q) d
      have : nend pd ln q = -1 - q := if_pos (by omega)
      rw [this, if_pos (show -1 - q < 0 by omega)]
      unfold ifD
      rw [if_neg d]
      by_cases w : pd q = 59
      · rw [if_pos w]; rfl
      · rw [if_neg w, if_neg (show ¬ pd q = 48 by omega)]; rfl
theorem fo_dig (k t : Int) (hk : ¬ (k = 2 ∨ (6 ≤ k ∧ k ≤ 8) ∨ k = 10)) (hs : ∀ s : Int, stA k s = if s = 59 then 0 else ifD s t) (ht : 0 < t) (h0 : 0 ≤ q) (h1 : q ≤ ln) : fo pd ln q k = if dgS pd ln q < 0 then q else fo pd ln (q + 1) t := by
  by_cases e : q = ln
  · rw [dgS_ge (by omega), if_pos (by decide), fo_end k e, if_neg hk]
  · rw [fo_step k h0 (by omega), hs]
    by_cases w : pd q = 59
    · rw [if_pos w, dgS_n (by omega), if_pos (show (-1 : Int) < 0 by decide)]; rfl
    · rw [if_neg w]
      unfold ifD
      by_cases d : 48 ≤ pd q ∧ pd q ≤ 57
      · rw [if_pos d, if_neg (by omega), dgS_d (by omega) d, if_neg (by omega)]
      · rw [if_neg d, if_pos rfl, dgS_n d, if_pos (show (-1 : Int) < 0 by decide)]
theorem fo_eq (h0 : 0 ≤ q) (h1 : q ≤ ln) : fo pd ln q 4 = if cdS pd ln q = 61 then fo pd ln (q + 1) 5 else q := by
  by_cases e : q = ln
  · rw [cdS_ge (by omega), if_neg (by decide), fo_end 4 e, if_neg (by decide)]
  · rw [fo_step 4 h0 (by omega), stA_4, cdS_pd (by omega)]
    by_cases w : pd q = 59
    · rw [if_pos w, if_neg (show ¬ pd q = 61 by omega)]; rfl
    · rw [if_neg w]
      by_cases d : pd q = 61
      · rw [if_pos d, if_pos d]; rfl
      · rw [if_neg d, if_neg d]; rfl
theorem fo_ord (h0 : 0 ≤ q) (h1 : q ≤ ln) : fo pd ln q 1 = if ordE pd ln q < 0 then -1 - ordE pd ln q else fin pd ln (ordE pd ln q) := by
  by_cases e : q = ln
  · have hc := cdS_ge (pd := pd) (ln := ln) (q := q) (by omega)
    have : ordE pd ln q = -1 - q := by unfold ordE; rw [hc]; rfl
    rw [this, if_pos (by omega), fo_end 1 e, if_neg (by decide)]
    omega
  · have hc := cdS_pd (pd := pd) (ln := ln) (q := q) (by omega)
    have hn1 := nend_rng pd ln (q + 1)
    have hn3 := nend_rng pd ln (q + 3)
    rw [fo_step 1 h0 (by omega), stA_1]
    unfold nmA
    by_cases c1 : pd q = 109
    · have : ordE pd ln q = if dgS pd ln (q + 1) < 0 then q + 1 else q + 2 := by unfold ordE; rw [hc, if_pos c1]
      rw [if_neg (show ¬ pd q = 59 by omega), if_pos c1, if_neg (by decide), this, fo_may 2 10 (by decide) stA_2 (by decide) (by omega) (by omega)]
      by_cases d : dgS pd ln (q + 1) < 0
      · rw [if_pos d, if_pos d, if_neg (by omega)]
      · have l1 := dig_lt d
        rw [if_neg d, if_neg d, if_neg (by omega), fo_10 (by omega) (by omega), show q + 1 + 1 = q + 2 by omega]
    · by_cases c2 : pd q = 108
      · have : ordE pd ln q = if dgS pd ln (q + 1) < 0 then -2 - q else if cdS pd ln (q + 2) = 61 then nend pd ln (q + 3) else -3 - q := by unfold ordE; rw [hc, if_neg c1, if_pos c2]
        rw [if_neg (show ¬ pd q = 59 by omega), if_neg c1, if_pos c2, if_neg (by decide), this, fo_dig 3 4 (by decide) stA_3 (by decide) (by omega) (by omega)]
        by_cases d : dgS pd ln (q + 1) < 0
        · rw [if_pos d, if_pos d, if_pos (by omega)]; omega
        · have l1 := dig_lt d
          rw [if_neg d, if_neg d, fo_eq (by omega) (by omega), show q + 1 + 1 = q + 2 by omega]
          by_cases f : cdS pd ln (q + 2) = 61
          · have l2 : q + 2 < ln := Classical.byContradiction fun w => by rw [cdS_ge w] at f; cases f
            rw [if_pos f, if_pos f, fo_num (by omega) (by omega), show q + 2 + 1 = q + 3 by omega]
            by_cases g : nend pd ln (q + 3) < 0
            · rw [if_pos g, if_pos g]; omega
            · rw [if_neg g, if_neg g]
          · rw [if_neg f, if_neg f, if_pos (by omega)]; omega
      · by_cases c3 : pd q = 115 ∨ pd q = 116
        · have : ordE pd ln q = nend pd ln (q + 1) := by unfold ordE; rw [hc, if_neg c1, if_neg c2, if_pos c3]
          rw [if_neg (show ¬ pd q = 59 by omega), if_neg c1, if_neg c2, if_pos c3, if_neg (by decide), this, fo_num (by omega) (by omega)]
          by_cases g : nend pd ln (q + 1) < 0
          · rw [if_pos g, if_pos g]; omega
          · rw [if_neg g, if_neg g]
        · by_cases c4 : pd q = 98 ∨ pd q = 118
          · have : ordE pd ln q = if dgS pd ln (q + 1) < 0 then -2 - q else q + 2 := by unfold ordE; rw [hc, if_neg c1, if_neg c2, if_neg c3, if_pos c4]
            rw [if_neg (show ¬ pd q = 59 by omega), if_neg c1, if_neg c2, if_neg c3, if_pos c4, if_neg (by decide), this, fo_dig 9 10 (by decide) stA_9 (by decide) (by omega) (by omega)]
            by_cases d : dgS pd ln (q + 1) < 0
            · rw [if_pos d, if_pos d, if_pos (by omega)]; omega
            · have l1 := dig_lt d
              rw [if_neg d, if_neg d, if_neg (by omega), fo_10 (by omega) (by omega), show q + 1 + 1 = q + 2 by omega]
          · have : ordE pd ln q = -1 - q := by unfold ordE; rw [hc, if_neg c1, if_neg c2, if_neg c3, if_neg c4]
            rw [if_neg c1, if_neg c2, if_neg c3, if_neg c4, this, if_pos (show -1 - q < 0 by omega)]
            have : (if (if pd q = 59 then (0 : Int) else 0) = 0 then q else fo pd ln (q + 1) (if pd q = 59 then 0 else 0)) = q := by split <;> simp_all
            rw [this]
            omega
end GRA
/-- inside an order: within the text, and no end of an order -/
theorem dig_in {pd : Int → Int} {ln i : Int} (h : 0 ≤ dgS pd ln i) : i < ln ∧ 48 ≤ pd i ∧ pd i ≤ 57 ∧ dgS pd ln i = pd i - 48 := by
  unfold dgS at h ⊢
  split at h
  · rename_i w
    rw [if_pos w]
    exact ⟨w.1, w.2.1, w.2.2, rfl⟩
  · omega
theorem cd_in {pd : Int → Int} {ln i v : Int} (h : cdS pd ln i = v) (hv : 0 ≤ v) : i < ln ∧ pd i = v := by
  unfold cdS at h
  split at h
  · rename_i w; exact ⟨w, h⟩
  · omega
theorem num_in {pd : Int → Int} {ln p : Int} (h0 : 0 ≤ p) (hn : 0 ≤ nend pd ln p) (i : Int) (h1 : p ≤ i) (h2 : i < nend pd ln p) : i < ln ∧ pd i ≠ 59 := by
  have := dig_in (nend_dig h0 i h1 h2)
  exact ⟨this.1, by omega⟩
theorem ord_in {pd : Int → Int} {ln p : Int} (h0 : 0 ≤ p) (hE : 0 ≤ ordE pd ln p) (i : Int) (h1 : p ≤ i) (h2 : i < ordE pd ln p) : i < ln ∧ pd i ≠ 59 := by
  have hn3 := nend_rng pd ln (p + 3)
  have hn1 := nend_rng pd ln (p + 1)
  unfold ordE at hE h2
  by_cases c1 : cdS pd ln p = 109
  · have g := cd_in c1 (by decide)
    rw [if_pos c1] at hE h2
    by_cases d : dgS pd ln (p + 1) < 0
    · rw [if_pos d] at hE h2
      rw [show i = p by omega]; exact ⟨g.1, by omega⟩
    · rw [if_neg d] at hE h2
      have w := dig_in (pd := pd) (ln := ln) (i := p + 1) (by omega)
      rcases (show i = p ∨ i = p + 1 by omega) with q | q <;> subst q
      · exact ⟨g.1, by omega⟩
      · exact ⟨w.1, by omega⟩
  · rw [if_neg c1] at hE h2
    by_cases c2 : cdS pd ln p = 108
    · have g := cd_in c2 (by decide)
      rw [if_pos c2] at hE h2
      by_cases d : dgS pd ln (p + 1) < 0
      · rw [if_pos d] at hE h2; omega
      · rw [if_neg d] at hE h2
        have w := dig_in (pd := pd) (ln := ln) (i := p + 1) (by omega)
        by_cases f : cdS pd ln (p + 2) = 61
        · rw [if_pos f] at hE h2
          have g2 := cd_in f (by decide)
          by_cases q3 : p + 3 ≤ i
          · exact num_in (by omega) hE i q3 h2
          · rcases (show i = p ∨ i = p + 1 ∨ i = p + 2 by omega) with q | q | q <;> subst q
            · exact ⟨g.1, by omega⟩
            · exact ⟨w.1, by omega⟩
            · exact ⟨g2.1, by omega⟩
        · rw [if_neg f] at hE h2; omega
    · rw [if_neg c2] at hE h2
      by_cases c3 : cdS pd ln p = 115 ∨ cdS pd ln p = 116
      · have g : p < ln ∧ pd p ≠ 59 := by
          rcases c3 with c | c
          · have := cd_in c (by decide); exact ⟨this.1, by omega⟩
          · have := cd_in c (by decide); exact ⟨this.1, by omega⟩
        rw [if_pos c3] at hE h2
        by_cases q3 : p + 1 ≤ i
        · exact num_in (by omega) hE i q3 h2
        · rw [show i = p by omega]; exact g
      · rw [if_neg c3] at hE h2
        by_cases c4 : cdS pd ln p = 98 ∨ cdS pd ln p = 118
        · have g : p < ln ∧ pd p ≠ 59 := by
            rcases c4 with c | c
            · have := cd_in c (by decide); exact ⟨this.1, by omega⟩
            · have := cd_in c (by decide); exact ⟨this.1, by omega⟩
          rw [if_pos c4] at hE h2
          by_cases d : dgS pd ln (p + 1) < 0
          · rw [if_pos d] at hE h2; omega
          · rw [if_neg d] at hE h2
            have w := dig_in (pd := pd) (ln := ln) (i := p + 1) (by omega)
            rcases (show i = p ∨ i = p + 1 by omega) with q | q <;> subst q
            · exact g
            · exact ⟨w.1, by omega⟩
        · rw [if_neg c4] at hE h2; omega
theorem ord_le {pd : Int → Int} {ln p : Int} (h0 : 0 ≤ p) (hE : 0 ≤ ordE pd ln p) : p + 1 ≤ ordE pd ln p ∧ ordE pd ln p ≤ ln := by
  have h := (ordE_rng pd ln p h0).2.2 hE
  have := (ord_in h0 hE (ordE pd ln p - 1) (by omega) (by omega)).1
  omega
theorem flt_fo {pd : Int → Int} {ln : Int} : ∀ (f : Nat) (p : Int), 0 ≤ p → p ≤ ln → ln - p < 2 * (f : Int) → flt pd ln f p = fo pd ln p 1 := by
  intro f
  induction f with
  | zero => intro p h0 h1 h2; omega
  | succ f ih =>
    intro p h0 h1 h2
    show (if ordE pd ln p < 0 then -1 - ordE pd ln p else if ordE pd ln p = ln then -6 else if cdS pd ln (ordE pd ln p) = 59 then flt pd ln f (ordE pd ln p + 1) else ordE pd ln p) = _
    rw [fo_ord h0 h1]
    by_cases e : ordE pd ln p < 0
    · rw [if_pos e, if_pos e]
    · have hl := ord_le h0 (show 0 ≤ ordE pd ln p by omega)
      rw [if_neg e, if_neg e]
      unfold fin
      by_cases w : ordE pd ln p = ln
      · rw [if_pos w, if_pos w]
      · rw [if_neg w, if_neg w]
        by_cases z : cdS pd ln (ordE pd ln p) = 59
        · rw [if_pos z, if_pos z]
          exact ih _ (by omega) (by omega) (by omega)
        · rw [if_neg z, if_neg z]
theorem fO_flt {pd : Int → Int} {ln : Int} (h : 0 ≤ ln ∧ ln ≤ 80) : fO pd ln ln.toNat 0 1 = flt pd ln 80 0 := by
  rw [flt_fo 80 0 (by decide) h.1 (by omega)]
  unfold fo
  rw [Int.sub_zero]
/-! the numbers of an order -/
theorem cnv_nval {pd : Int → Int} {ln fr : Int} (h0 : 0 ≤ fr) : ∀ n : Nat, (∀ i : Int, fr ≤ i → i < fr + n → 0 ≤ dgS pd ln i) → cnv pd ln fr n = nval pd ln fr n := by
  intro n
  induction n with
  | zero => intro _; rfl
  | succ n ih =>
    intro h
    have w := dig_in (h (fr + n) (by omega) (by omega))
    have e : sgA pd ln (fr + n) = pd (fr + n) := if_pos ⟨by omega, w.1⟩
    show cnv pd ln fr n * 10 + sgA pd ln (fr + n) - 48 = 10 * nval pd ln fr n + dgS pd ln (fr + n)
    rw [ih (fun i a b => h i a (by omega)), e, w.2.2.2]
    omega
theorem cnv_num {pd : Int → Int} {ln p : Int} (h0 : 0 ≤ p) (hn : 0 ≤ nend pd ln p) : cnv pd ln p (nend pd ln p - p).toNat = numA pd ln p := by
  have hr := nend_rng pd ln p
  exact cnv_nval h0 _ (fun i a b => nend_dig h0 i a (by omega))
theorem cnv_dig {pd : Int → Int} {ln p : Int} (h0 : 0 ≤ p) (hd : 0 ≤ dgS pd ln p) {n : Nat} (hn : n = 1) : cnv pd ln p n = dgS pd ln p := by
  subst hn
  have w := dig_in hd
  have e : sgA pd ln (p + (0 : Nat)) = pd p := by
    rw [show p + ((0 : Nat) : Int) = p by omega]
    exact if_pos ⟨h0, w.1⟩
  show 0 * 10 + sgA pd ln (p + (0 : Nat)) - 48 = _
  rw [e, w.2.2.2]
  omega
def dosC (τ pd : Int → Int) (ln p : Int) : Int → Int :=
  if cdS pd ln p = 109 then amF τ (if dgS pd ln (p + 1) < 0 then 0 else dgS pd ln (p + 1))
  else if cdS pd ln p = 108 then alF τ (dgS pd ln (p + 1)) (numA pd ln (p + 3))
  else if cdS pd ln p = 115 then swF τ (numA pd ln (p + 1))
  else if cdS pd ln p = 116 then elF τ (numA pd ln (p + 1))
  else if cdS pd ln p = 98 then bsF τ (dgS pd ln (p + 1))
  else inF τ (dgS pd ln (p + 1))
def dorC (τ pd : Int → Int) (ln p : Int) : Int :=
  if cdS pd ln p = 109 then τ 7
  else if cdS pd ln p = 108 then τ 8
  else if cdS pd ln p = 115 then (if τ (102 + 3 * numA pd ln (p + 1) + 2) = 0 then 1 else 0)
  else if cdS pd ln p = 116 then elT τ (numA pd ln (p + 1)).toNat (τ 7).toNat
  else if cdS pd ln p = 98 then τ (11 + 13 * dgS pd ln (p + 1) + 6)
  else owS (mrec τ (dgS pd ln (p + 1))) τ
def cocS (pd : Int → Int) (ln : Int) : Nat → (Int → Int) → Int → Int → Int
  | 0, τ, _ => τ
  | f + 1, τ, p => if p < ln ∧ whN τ pd ln p = 0 then cocS pd ln f (dosC τ pd ln p) (ordE pd ln p + 1) else τ
def cocN (pd : Int → Int) (ln : Int) : Nat → (Int → Int) → Int → Int
  | 0, _, _ => 0
  | f + 1, τ, p => if p < ln ∧ whN τ pd ln p = 0 then cocN pd ln f (dosC τ pd ln p) (ordE pd ln p + 1) + 1 else 0
/-- what stands behind an order of a text without a fault -/
theorem flt_or2 {pd : Int → Int} {ln p : Int} {f : Nat} (h0 : 0 ≤ p) (h : flt pd ln (f + 1) p = -6) : 0 ≤ ordE pd ln p ∧ (ordE pd ln p = ln ∨ (cdS pd ln (ordE pd ln p) = 59 ∧ flt pd ln f (ordE pd ln p + 1) = -6)) := by
  have hr := ordE_rng pd ln p h0
  have h : (if ordE pd ln p < 0 then -1 - ordE pd ln p else if ordE pd ln p = ln then -6 else if cdS pd ln (ordE pd ln p) = 59 then flt pd ln f (ordE pd ln p + 1) else ordE pd ln p) = -6 := h
  by_cases e : ordE pd ln p < 0
  · rw [if_pos e] at h; omega
  · rw [if_neg e] at h
    refine ⟨by omega, ?_⟩
    by_cases w : ordE pd ln p = ln
    · exact Or.inl w
    · rw [if_neg w] at h
      by_cases z : cdS pd ln (ordE pd ln p) = 59
      · rw [if_pos z] at h; exact Or.inr ⟨z, h⟩
      · rw [if_neg z] at h; omega
theorem sg_cd {pd : Int → Int} {ln p v : Int} (h : sgA pd ln p = v) (hv : 0 ≤ v) : cdS pd ln p = v := by
  unfold sgA at h
  split at h
  · rename_i w; rw [cdS_pd w.2]; exact h
  · omega
theorem cd_sg {pd : Int → Int} {ln p v : Int} (h : cdS pd ln p = v) (hv : 0 ≤ v) (h0 : 0 ≤ p) : sgA pd ln p = v := by
  have g := cd_in h hv
  exact (if_pos ⟨h0, g.1⟩).trans g.2
theorem ord_109 {pd : Int → Int} {ln p : Int} (hc : cdS pd ln p = 109) : ordE pd ln p = if dgS pd ln (p + 1) < 0 then p + 1 else p + 2 := if_pos hc
theorem ord_108 {pd : Int → Int} {ln p : Int} (hc : cdS pd ln p = 108) (h0 : 0 ≤ p) (hE : 0 ≤ ordE pd ln p) : 0 ≤ dgS pd ln (p + 1) ∧ ordE pd ln p = nend pd ln (p + 3) ∧ p + 4 ≤ ordE pd ln p := by
  have hr := nend_rng pd ln (p + 3)
  unfold ordE at hE ⊢
  rw [if_neg (by omega), if_pos hc] at hE ⊢
  by_cases d : dgS pd ln (p + 1) < 0
  · rw [if_pos d] at hE; omega
  · rw [if_neg d] at hE ⊢
    by_cases f : cdS pd ln (p + 2) = 61
    · rw [if_pos f] at hE ⊢; exact ⟨by omega, rfl, by omega⟩
    · rw [if_neg f] at hE; omega
theorem ord_115 {pd : Int → Int} {ln p : Int} (hc : cdS pd ln p = 115 ∨ cdS pd ln p = 116) : ordE pd ln p = nend pd ln (p + 1) := by
  unfold ordE
  rw [if_neg (by omega), if_neg (by omega), if_pos hc]
theorem ord_98 {pd : Int → Int} {ln p : Int} (hc : cdS pd ln p = 98 ∨ cdS pd ln p = 118) (h0 : 0 ≤ p) (hE : 0 ≤ ordE pd ln p) : 0 ≤ dgS pd ln (p + 1) ∧ ordE pd ln p = p + 2 := by
  unfold ordE at hE ⊢
  rw [if_neg (by omega), if_neg (by omega), if_neg (by omega), if_pos hc] at hE ⊢
  by_cases d : dgS pd ln (p + 1) < 0
  · rw [if_pos d] at hE; omega
  · rw [if_neg d]; exact ⟨by omega, rfl⟩
theorem ord_one {pd : Int → Int} {ln p : Int} (h0 : 0 ≤ p) (hE : 0 ≤ ordE pd ln p) : cdS pd ln p = 109 ∨ cdS pd ln p = 108 ∨ cdS pd ln p = 115 ∨ cdS pd ln p = 116 ∨ cdS pd ln p = 98 ∨ cdS pd ln p = 118 := by
  apply Classical.byContradiction
  intro q
  unfold ordE at hE
  rw [if_neg (by omega), if_neg (by omega), if_neg (by omega), if_neg (by omega)] at hE
  omega
theorem cnv_m {pd : Int → Int} {ln p en : Int} (h0 : 0 ≤ p) (ho : en = if dgS pd ln (p + 1) < 0 then p + 1 else p + 2) : cnv pd ln (p + 1) (en - (p + 1)).toNat = if dgS pd ln (p + 1) < 0 then 0 else dgS pd ln (p + 1) := by
  by_cases d : dgS pd ln (p + 1) < 0
  · rw [if_pos d] at ho ⊢
    rw [show (en - (p + 1)).toNat = 0 by omega]
    rfl
  · rw [if_neg d] at ho ⊢
    exact cnv_dig (by omega) (by omega) (by omega)
