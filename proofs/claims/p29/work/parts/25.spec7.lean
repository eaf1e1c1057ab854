/-! the class's bits -/
theorem zI_shr {x k : Int} (hx : 0 ≤ x ∧ x < 2147483648) (hk : 0 ≤ k ∧ k ≤ 30) : zI x >>> (zI k &&& 31) = zI (x / 2 ^ k.toNat) := by
  have hs : ((zI k &&& 31).toBitVec.smod 32).toNat = k.toNat := by
    rcases (show k = 0 ∨ k = 1 ∨ k = 2 ∨ k = 3 ∨ k = 4 ∨ k = 5 ∨ k = 6 ∨ k = 7 ∨ k = 8 ∨ k = 9 ∨ k = 10 ∨ k = 11 ∨ k = 12 ∨ k = 13 ∨ k = 14 ∨ k = 15 ∨ k = 16 ∨ k = 17 ∨ k = 18 ∨ k = 19 ∨ k = 20 ∨ k = 21 ∨ k = 22 ∨ k = 23 ∨ k = 24 ∨ k = 25 ∨ k = 26 ∨ k = 27 ∨ k = 28 ∨ k = 29 ∨ k = 30 by omega) with h | h | h | h | h | h | h | h | h | h | h | h | h | h | h | h | h | h | h | h | h | h | h | h | h | h | h | h | h | h | h <;> subst h <;> first | rfl | decide +kernel
  have h1 : (zI x >>> (zI k &&& 31)).toInt = x / 2 ^ k.toNat := by
    rw [pk_shr _ _ _ hs, zI_toInt (by omega), Int.shiftRight_eq_div_pow]
    simp
  rw [← h1, zI_of]
theorem zI_and1 {y : Int} (hy : 0 ≤ y ∧ y < 2147483648) : zI y &&& zI 1 = zI (y % 2) := by
  obtain ⟨n, rfl⟩ := Int.eq_ofNat_of_zero_le hy.1
  show nI n &&& nI 1 = _
  rw [pk_andN (n := n) (m := nI 1) (by omega) 1 (by decide)]
  show nI (n % 2 ^ 1) = zI ((n : Int) % 2)
  rw [show ((n : Int) % 2) = ((n % 2 : Nat) : Int) by omega]
  rfl
section XB6
variable {p : Program} {l : Launch} {e : Env} {R : Room} {s : State} {m : MethodId} {args : Array Value} {below : List Frame} {meth : Method} {c : Code} {H : Heap} {locs : List Loc} {cells slots : Nat} {Q : State → Prop} {cc : ByteArray} {pc : Nat} {ls : Array Slot} {rest : List Value}
theorem x_ishr (hx : p.tables.exec = Jvm.exec) (hb : c.code = cc) {x k : Int} (hr : 0 ≤ x ∧ x < 2147483648) (hk : 0 ≤ k ∧ k ≤ 30) (d : decode cc pc = .ok (.ishr, 1)) (kk : W p l e R s m args below meth c H locs cells slots Q (F0 m (pc + 1) ls (.int (zI (x / 2 ^ k.toNat)) :: rest))) : W p l e R s m args below meth c H locs cells slots Q (F0 m pc ls (.int (zI k) :: .int (zI x) :: rest)) := lv_ishr hx hb d (by rw [zI_shr hr hk]; exact kk)
theorem x_iand (hx : p.tables.exec = Jvm.exec) (hb : c.code = cc) {y : Int} (hy : 0 ≤ y ∧ y < 2147483648) (d : decode cc pc = .ok (.iand, 1)) (kk : W p l e R s m args below meth c H locs cells slots Q (F0 m (pc + 1) ls (.int (zI (y % 2)) :: rest))) : W p l e R s m args below meth c H locs cells slots Q (F0 m pc ls (.int (zI 1) :: .int (zI y) :: rest)) := lv_iand hx hb d (by rw [zI_and1 hy]; exact kk)
end XB6
theorem shr_rng {x : Int} (k : Nat) (hx : 0 ≤ x ∧ x < 2147483648) : 0 ≤ x / 2 ^ k ∧ x / 2 ^ k < 2147483648 := by
  have h1 := Int.ediv_nonneg hx.1 (Int.le_of_lt (two_pos k))
  have h2 := Int.ediv_le_self (2 ^ k) hx.1
  omega
/-- who is fed through n, as the class finds it: the meters n + 1 .. n + j looked at -/
def fdC (τ : Int → Int) (n : Int) : Nat → Int
  | 0 => shI 1 n
  | j + 1 => if fdC τ n j / 2 ^ (τ (11 + 13 * (n + 1 + (j : Int)) + 0)).toNat % 2 = 1 then orI (fdC τ n j) (shI 1 (n + 1 + (j : Int))) else fdC τ n j
theorem fdC_rng {τ : Int → Int} {n : Int} (hn : 0 ≤ n) : ∀ j : Nat, n + (j : Int) ≤ 30 → 0 ≤ fdC τ n j ∧ fdC τ n j < 2147483648 := by
  intro j
  induction j with
  | zero => intro h; exact shI_rng (by decide) (by omega)
  | succ j ih =>
    intro h
    have h1 := ih (by omega)
    unfold fdC
    split
    · exact orI_rng h1 (shI_rng (by decide) (by omega))
    · exact h1
def fedC (τ : Int → Int) (n : Int) : Int := fdC τ n (τ 7 - n - 1).toNat
def cpw (τ : Int → Int) (n : Int) : Nat → Int
  | 0 => 0
  | j + 1 => cpw τ n j + (if ¬ τ (102 + 3 * (j : Int) + 2) = 0 ∧ fedC τ n / 2 ^ (τ (102 + 3 * (j : Int) + 0)).toNat % 2 = 1 then τ (102 + 3 * (j : Int) + 1) else 0)
def cpow (τ : Int → Int) (n : Int) : Int := cpw τ n (τ 8).toNat
theorem cpw_rng {τ : Int → Int} (h : lOK τ) (n : Int) : ∀ j : Nat, (j : Int) ≤ τ 8 → 0 ≤ cpw τ n j ∧ cpw τ n j ≤ 4000 * j := by
  intro j
  induction j with
  | zero => intro _; exact ⟨Int.le_refl _, Int.le_refl _⟩
  | succ j ih =>
    intro hj
    have h1 := ih (by omega)
    have h2 := (h.2.2.2 j (by omega) (by omega)).2.1
    unfold cpw
    split <;> omega
theorem cpow_rng {τ : Int → Int} (h : lOK τ) (n : Int) : 0 ≤ cpow τ n ∧ cpow τ n ≤ 48000 := by
  have h8 := h.2.1
  have := cpw_rng h n (τ 8).toNat (by omega)
  unfold cpow
  omega
/-! copies of a House -/
def cpH3 (τ τ2 : Int → Int) : Int → Int := cpN (cpN (cpN τ τ2 0 6) (fun i => τ2 (11 + i)) 11 (13 * τ2 7)) (fun i => τ2 (102 + i)) 102 (3 * τ2 8)
def cpH (τ τ2 : Int → Int) : Int → Int := up (up (up (up (cpH3 τ τ2) 6 (τ2 6)) 7 (τ2 7)) 8 (τ2 8)) 10 (τ2 10)
theorem cpN_inM {τ τ2 : Int → Int} {j : Int} (hj : 0 ≤ j) : inM (cpN τ (fun i => τ2 (11 + i)) 11 (13 * j)) j (mrec τ2 j) = cpN τ (fun i => τ2 (11 + i)) 11 (13 * (j + 1)) := by
  funext i
  unfold inM cpN mrec
  by_cases h : 11 + 13 * j ≤ i ∧ i < 11 + 13 * j + 13
  · rw [if_pos h, if_pos (by omega)]
    congr 1; omega
  · rw [if_neg h]
    by_cases h2 : 11 ≤ i ∧ i < 11 + 13 * j
    · rw [if_pos h2, if_pos (by omega)]
    · rw [if_neg h2, if_neg (by omega)]
theorem cpN_inL {τ τ2 : Int → Int} {j : Int} (hj : 0 ≤ j) : inL (cpN τ (fun i => τ2 (102 + i)) 102 (3 * j)) j (lrec τ2 j) = cpN τ (fun i => τ2 (102 + i)) 102 (3 * (j + 1)) := by
  funext i
  unfold inL cpN lrec
  by_cases h : 102 + 3 * j ≤ i ∧ i < 102 + 3 * j + 3
  · rw [if_pos h, if_pos (by omega)]
    congr 1; omega
  · rw [if_neg h]
    by_cases h2 : 102 ≤ i ∧ i < 102 + 3 * j
    · rw [if_pos h2, if_pos (by omega)]
    · rw [if_neg h2, if_neg (by omega)]
/-! the House's changes -/
def amF (τ : Int → Int) (k : Int) : Int → Int := up (inM (up τ 10 (τ 10 + 1)) (τ 7) (bgM (if τ 7 = 0 then -6 else k) (τ 10 + 1))) 7 (τ 7 + 1)
def alF (τ : Int → Int) (k w : Int) : Int → Int := up (inL τ (τ 8) (bgL k w)) 8 (τ 8 + 1)
def swF (τ : Int → Int) (k : Int) : Int → Int := inL τ k (up (lrec τ k) 2 (if τ (102 + 3 * k + 2) = 0 then 1 else 0))
def bsF (τ : Int → Int) (k : Int) : Int → Int := inM τ k (up (mrec τ k) 7 1)
def owS (f st : Int → Int) : Int := (f 3 - f 11) * st 4 + (f 4 - f 12) * st 5
def inA (τ : Int → Int) (k : Int) : Int → Int := inM τ k (stM (mrec τ k) (owS (mrec τ k) τ))
def inB (τ : Int → Int) (k : Int) : Int → Int := up (inA τ k) 10 (inA τ k 10 + 1)
def inF (τ : Int → Int) (k : Int) : Int → Int := if inA τ k (11 + 13 * k + 7) = 0 then inA τ k else inM (inB τ k) k (mdM (mrec (inB τ k) k) (inB τ k 10))
theorem inA_7 {τ : Int → Int} {k : Int} : inA τ k (11 + 13 * k + 7) = τ (11 + 13 * k + 7) := by
  unfold inA
  rw [inM_in (by decide)]
  simp [stM, up, mrec]
theorem inA_10 {τ : Int → Int} {k : Int} (hk : 0 ≤ k) : inA τ k 10 = τ 10 := inM_out (by omega)
/-! minutes, as the class counts them -/
def ngt (t : Int) : Int := if 1320 ≤ t % 1440 ∨ t % 1440 < 360 then 1 else 0
def miN (f st : Int → Int) (pw t : Int) : Nat → Int → Int
  | 0 => f
  | n + 1 => rnM (miN f st pw t n) st 1 pw (ngt (t + n))
def miT (f st : Int → Int) (pw t : Int) : Nat → Int
  | 0 => 0
  | n + 1 => miT f st pw t n + rnT (miN f st pw t n) st 1 pw
def swt (t : Int) : Int := if t % 1440 < 360 then 360 - t % 1440 else if t % 1440 < 1320 then 1320 - t % 1440 else 1440 - t % 1440
theorem swt_rng (t : Int) : 1 ≤ swt t ∧ swt t ≤ 960 := by unfold swt; repeat' split <;> omega
theorem swt_ngt {t j : Int} (h0 : 0 ≤ j) (h1 : j < swt t) : ngt (t + j) = ngt t := by
  unfold swt at h1
  unfold ngt
  repeat' split at h1 <;> (repeat' split) <;> first | rfl | omega
theorem rnM_n {f st : Int → Int} {n pw nt i : Int} (h : i ≠ 1 ∧ i ≠ 2 ∧ i ≠ 3 ∧ i ≠ 4 ∧ i ≠ 5 ∧ i ≠ 9) : rnM f st n pw nt i = f i := by
  have h3 : rn3 f st n pw i = f i := (up_n (by omega)).trans ((up_n (by omega)).trans (up_n (by omega)))
  have h4 : rn4 f st n pw nt i = f i := by
    unfold rn4
    split
    · exact (up_n (by omega)).trans h3
    · exact (up_n (by omega)).trans h3
  have h5 : rn5 f st n pw nt i = f i := (up_n (by omega)).trans h4
  unfold rnM
  split
  · exact h5
  · exact (up_n (by omega)).trans ((up_n (by omega)).trans h5)
theorem rnM_2 {f st : Int → Int} {n pw nt : Int} : rnM f st n pw nt 2 = if f 9 + n < st 3 then f 2 else min 160 (f 2 + 1) := by
  have h5 : rn5 f st n pw nt 2 = f 2 := (up_n (by decide)).trans rn4_2
  unfold rnM
  rw [rn5_9]
  split
  · exact h5
  · rw [up_s, rn6_2]
theorem rnM_9 {f st : Int → Int} {n pw nt : Int} : rnM f st n pw nt 9 = if f 9 + n < st 3 then f 9 + n else 0 := by
  unfold rnM
  rw [rn5_9]
  split
  · exact rn5_9
  · unfold rn6
    rw [up_n (by decide), up_s]
theorem rn5_5 {f st : Int → Int} {n pw nt : Int} : rn5 f st n pw nt 5 = f 5 + pw * n := by
  have h3 : rn3 f st n pw 5 = f 5 + pw * n := (up_n (by decide)).trans ((up_n (by decide)).trans (up_s _ _ _))
  have h4 : rn4 f st n pw nt 5 = f 5 + pw * n := by
    unfold rn4
    split
    · exact (up_n (by decide)).trans h3
    · exact (up_n (by decide)).trans h3
  exact (up_n (by decide)).trans h4
theorem rn1_w {f st : Int → Int} {n m pw : Int} : wayS (rn1 f m pw) st n pw = wayS f st n pw := rfl
theorem rn2_1 {f st : Int → Int} {n pw : Int} : rn2 f st n pw 1 = f 1 + wayS f st n pw := by
  have h1 : rn1 f n pw 1 = f 1 := up_n (by decide)
  unfold rn2
  rw [up_s, h1, rn1_w]
theorem rnT_e {f st : Int → Int} {n pw : Int} : rnT f st n pw = (f 1 + wayS f st n pw) / 6000 := by
  unfold rnT
  rw [rn2_1]
theorem rn5_1 {f st : Int → Int} {n pw nt : Int} : rn5 f st n pw nt 1 = (f 1 + wayS f st n pw) % 6000 := by
  have h3 : rn3 f st n pw 1 = (f 1 + wayS f st n pw) % 6000 := by
    unfold rn3
    rw [up_s, rn2_1, rnT_e]
    omega
  have h4 : rn4 f st n pw nt 1 = (f 1 + wayS f st n pw) % 6000 := by
    unfold rn4
    split
    · exact (up_n (by decide)).trans h3
    · exact (up_n (by decide)).trans h3
  exact (up_n (by decide)).trans h4
theorem rn3_34 {f st : Int → Int} {n pw i : Int} (h : i = 3 ∨ i = 4) : rn3 f st n pw i = f i := (up_n (by omega)).trans ((up_n (by omega)).trans (up_n (by omega)))
theorem rn5_3 {f st : Int → Int} {n pw nt : Int} : rn5 f st n pw nt 3 = if nt = 1 then f 3 else f 3 + rnT f st n pw := by
  unfold rn5
  rw [up_n (by decide)]
  unfold rn4
  split
  · rw [up_n (by decide), rn3_34 (Or.inl rfl)]
  · rw [up_s, rn3_34 (Or.inl rfl)]
theorem rn5_4 {f st : Int → Int} {n pw nt : Int} : rn5 f st n pw nt 4 = if nt = 1 then f 4 + rnT f st n pw else f 4 := by
  unfold rn5
  rw [up_n (by decide)]
  unfold rn4
  split
  · rw [up_s, rn3_34 (Or.inr rfl)]
  · rw [up_n (by decide), rn3_34 (Or.inr rfl)]
theorem rnM_x {f st : Int → Int} {n pw nt i : Int} (h : i ≠ 2 ∧ i ≠ 9) : rnM f st n pw nt i = rn5 f st n pw nt i := by
  unfold rnM
  split
  · rfl
  · exact (up_n h.1).trans (up_n h.2)
theorem rOK_rnM {f st : Int → Int} {n pw nt : Int} (hf : rOK f) (hs : qOK st) (hn : 1 ≤ n) (hp : 0 ≤ pw ∧ pw ≤ 48000) : rOK (rnM f st n pw nt) := by
  obtain ⟨f1, f2, f9, f7⟩ := hf
  have s3 := hs.2.2.2
  unfold rOK
  rw [rnM_x (i := 1) (by decide), rn5_1, rnM_2, rnM_9, rnM_n (i := 7) (by decide)]
  refine ⟨by omega, ?_, ?_, f7⟩
  · split <;> omega
  · split <;> omega
/-- a minute more, where all are alike -/
theorem way_alike {f g st : Int → Int} {n pw : Int} (hf : rOK f) (hs : qOK st) (hn : 1 ≤ n) (g1 : g 1 = (f 1 + wayS f st n pw) % 6000) (g2 : g 2 = f 2) (g7 : g 7 = f 7) :
    (f 1 + wayS f st (n + 1) pw) / 6000 = (f 1 + wayS f st n pw) / 6000 + (g 1 + wayS g st 1 pw) / 6000 ∧ (f 1 + wayS f st (n + 1) pw) % 6000 = (g 1 + wayS g st 1 pw) % 6000 := by
  obtain ⟨⟨p1, p2⟩, f2, f9, f7⟩ := hf
  obtain ⟨s0, ⟨s1, s2⟩, s3, s4⟩ := hs
  have hc : 0 ≤ n * st 1 := Int.mul_nonneg (by omega) s1
  have he : (n + 1) * st 1 = n * st 1 + st 1 := by rw [Int.add_mul, Int.one_mul]
  unfold wayS at *
  rw [g2, g7] at *
  by_cases c1 : st 0 < pw
  · rw [if_pos c1] at *
    rw [if_pos c1, if_pos c1] at *
    generalize (if f 7 = 1 then pw * f 2 / 100 / 2 else pw * f 2 / 100) = z at *
    rw [Int.add_mul, Int.one_mul]
    generalize n * z = y at *
    omega
  · rw [if_neg c1] at *
    rw [if_neg c1, if_neg c1] at *
    by_cases c2 : 0 < pw ∨ f 7 = 1
    · rw [if_pos c2] at *
      rw [if_pos c2, if_pos c2] at *
      omega
    · rw [if_neg c2] at *
      rw [if_neg c2, if_neg c2] at *
      by_cases c3 : st 2 = 0
      · rw [if_pos c3] at *
        rw [if_pos c3, if_pos c3] at *
        rw [he]
        generalize n * st 1 = y at *
        omega
      · rw [if_neg c3] at *
        rw [if_neg c3, if_neg c3] at *
        rw [he]
        generalize n * st 1 = y at *
        by_cases c4 : f 1 = 0
        · rw [if_pos c4] at *
          rw [if_pos c4]
          have : g 1 = 0 := by omega
          rw [if_pos this]
          omega
        · rw [if_neg c4] at *
          rw [if_neg c4]
          by_cases c5 : g 1 = 0
          · rw [if_pos c5]; omega
          · rw [if_neg c5]; omega
theorem rn_alike {f st : Int → Int} {n pw nt : Int} (hf : rOK f) (hs : qOK st) (hn : 1 ≤ n) (h9 : f 9 + n < st 3) : rnM (rnM f st n pw nt) st 1 pw nt = rnM f st (n + 1) pw nt ∧ rnT f st n pw + rnT (rnM f st n pw nt) st 1 pw = rnT f st (n + 1) pw := by
  have g1 : rnM f st n pw nt 1 = (f 1 + wayS f st n pw) % 6000 := by rw [rnM_x (by decide), rn5_1]
  have g2 : rnM f st n pw nt 2 = f 2 := by rw [rnM_2, if_pos h9]
  have g7 : rnM f st n pw nt 7 = f 7 := rnM_n (by decide)
  have g9 : rnM f st n pw nt 9 = f 9 + n := by rw [rnM_9, if_pos h9]
  obtain ⟨w1, w2⟩ := way_alike hf hs hn g1 g2 g7
  have hT : rnT f st n pw + rnT (rnM f st n pw nt) st 1 pw = rnT f st (n + 1) pw := by rw [rnT_e, rnT_e, rnT_e, w1]
  refine ⟨?_, hT⟩
  funext i
  by_cases i2 : i = 2
  · subst i2; rw [rnM_2 (f := rnM f st n pw nt), g2, g9, rnM_2, Int.add_assoc]
  · by_cases i9 : i = 9
    · subst i9; rw [rnM_9 (f := rnM f st n pw nt), g9, rnM_9, Int.add_assoc]
    · by_cases i1 : i = 1
      · subst i1; rw [rnM_x (f := rnM f st n pw nt) (by decide), rn5_1, ← w2, rnM_x (f := f) (by decide), rn5_1]
      · by_cases i5 : i = 5
        · subst i5; rw [rnM_x (by decide), rn5_5, rnM_x (f := f) (by decide), rn5_5, rnM_x (f := f) (by decide), rn5_5, Int.mul_add]; omega
        · by_cases i3 : i = 3
          · subst i3; rw [rnM_x (by decide), rn5_3, rnM_x (f := f) (by decide), rn5_3, rnM_x (f := f) (by decide), rn5_3, ← hT]; split <;> omega
          · by_cases i4 : i = 4
            · subst i4; rw [rnM_x (by decide), rn5_4, rnM_x (f := f) (by decide), rn5_4, rnM_x (f := f) (by decide), rn5_4, ← hT]; split <;> omega
            · rw [rnM_n ⟨i1, i2, i3, i4, i5, i9⟩, rnM_n ⟨i1, i2, i3, i4, i5, i9⟩, rnM_n ⟨i1, i2, i3, i4, i5, i9⟩]
theorem miN_alike {f st : Int → Int} {pw t : Int} (hf : rOK f) (hs : qOK st) : ∀ n : Nat, 1 ≤ n → (n : Int) ≤ max 1 (st 3 - f 9) → (n : Int) ≤ swt t → rnM f st n pw (ngt t) = miN f st pw t n ∧ rnT f st n pw = miT f st pw t n := by
  intro n
  induction n with
  | zero => intro h; omega
  | succ n ih =>
    intro _ h2 h3
    by_cases h0 : n = 0
    · subst h0
      refine ⟨?_, ?_⟩
      · show _ = rnM f st 1 pw (ngt (t + (0 : Nat)))
        rw [show t + ((0 : Nat) : Int) = t by omega]
        rfl
      · show _ = 0 + rnT f st 1 pw
        rw [Int.zero_add]
        rfl
    · obtain ⟨a, b⟩ := ih (by omega) (by omega) (by omega)
      obtain ⟨c, d⟩ := rn_alike (pw := pw) (nt := ngt t) (n := (n : Int)) hf hs (by omega) (by omega)
      have hcast : ((n + 1 : Nat) : Int) = (n : Int) + 1 := by omega
      rw [hcast]
      refine ⟨?_, ?_⟩
      · show _ = rnM (miN f st pw t n) st 1 pw (ngt (t + n))
        rw [swt_ngt (by omega) (by omega), ← a, c]
      · show _ = miT f st pw t n + rnT (miN f st pw t n) st 1 pw
        rw [← b, ← a, d]
theorem miN_add {f st : Int → Int} {pw t : Int} (n : Nat) : ∀ k : Nat, miN f st pw t (n + k) = miN (miN f st pw t n) st pw (t + n) k ∧ miT f st pw t (n + k) = miT f st pw t n + miT (miN f st pw t n) st pw (t + n) k := by
  intro k
  induction k with
  | zero => exact ⟨rfl, (Int.add_zero _).symm⟩
  | succ k ih =>
    obtain ⟨a, b⟩ := ih
    refine ⟨?_, ?_⟩
    · show rnM (miN f st pw t (n + k)) st 1 pw (ngt (t + ((n + k : Nat) : Int))) = rnM (miN (miN f st pw t n) st pw (t + n) k) st 1 pw (ngt (t + n + k))
      rw [a, show t + ((n + k : Nat) : Int) = t + n + k by omega]
    · show miT f st pw t (n + k) + rnT (miN f st pw t (n + k)) st 1 pw = miT f st pw t n + (miT (miN f st pw t n) st pw (t + n) k + rnT (miN (miN f st pw t n) st pw (t + n) k) st 1 pw)
      rw [b, a, Int.add_assoc]
theorem rOK_miN {f st : Int → Int} {pw t : Int} (hf : rOK f) (hs : qOK st) (hp : 0 ≤ pw ∧ pw ≤ 48000) : ∀ n : Nat, rOK (miN f st pw t n) := by
  intro n
  induction n with
  | zero => exact hf
  | succ n ih => exact rOK_rnM ih hs (by decide) hp
def mtR (f st : Int → Int) (pw t : Int) : Nat → Int → Int
  | 0, _ => -6
  | g + 1, n => if 0 < rnT (miN f st pw t n.toNat) st 1 pw then n + 1 else mtR f st pw t g (n + 1)
theorem qOK_of {τ : Int → Int} (h : sOK τ 0) : qOK (sset τ) := ⟨h.1, h.2.1, h.2.2.1, h.2.2.2.1⟩
theorem rOK_of {τ : Int → Int} {k : Int} (h : dOK τ 0 k) : rOK (mrec τ k) := dOK_0 h
/-! elapse -/
def elR (τ : Int → Int) (n : Nat) : Nat → Int → Int
  | 0 => τ
  | j + 1 => inM (elR τ n j) j (miN (mrec (elR τ n j) j) (sset (elR τ n j)) (cpow (elR τ n j) j) (elR τ n j 6) n)
def elT (τ : Int → Int) (n : Nat) : Nat → Int
  | 0 => 0
  | j + 1 => elT τ n j + miT (mrec (elR τ n j) j) (sset (elR τ n j)) (cpow (elR τ n j) j) (elR τ n j 6) n
def elF (τ : Int → Int) (n : Int) : Int → Int := up (elR τ n.toNat (τ 7).toNat) 6 (elR τ n.toNat (τ 7).toNat 6 + n)
theorem miN_hi {f st : Int → Int} {pw t i : Int} (h : i = 0 ∨ i = 6 ∨ i = 7 ∨ i = 8 ∨ 10 ≤ i) : ∀ n : Nat, miN f st pw t n i = f i := by
  intro n
  induction n with
  | zero => rfl
  | succ n ih =>
    show rnM (miN f st pw t n) st 1 pw (ngt (t + n)) i = f i
    rw [rnM_n (by omega)]
    exact ih
theorem gOK_inM {τ f : Int → Int} {e : Int} (h : gOK τ 0) (he : 0 ≤ e ∧ e < τ 7) (hr : rOK f) (h0 : f 0 = τ (11 + 13 * e)) : gOK (inM τ e f) 0 := by
  obtain ⟨hL, hS, hD⟩ := h
  have h7 := hL.1
  have lo := fun (i : Int) (hi : i < 11 + 13 * e ∨ 11 + 13 * e + 13 ≤ i) => inM_out (τ := τ) (e := e) (f := f) hi
  refine ⟨lOK_of hL (lo 7 (by omega)) (lo 8 (by omega)) (fun i a b => ?_) (fun j a b => lo _ (by omega)), sOK_of hS (lo _ (by omega)) (lo _ (by omega)) (lo _ (by omega)) (lo _ (by omega)) (by rw [lo _ (by omega)]; exact hS.2.2.2.2), fun k a b => ?_⟩
  · by_cases hi : i = e
    · subst hi
      have := inM_in (τ := τ) (e := i) (f := f) (j := 0) (by decide)
      rw [Int.add_zero] at this
      rw [this, h0]
    · exact lo _ (by omega)
  · rw [lo 7 (by omega)] at b
    apply dOK_of0
    by_cases hk : k = e
    · subst hk
      rw [inM_in (by decide), inM_in (by decide), inM_in (by decide), inM_in (by decide)]
      exact hr
    · rw [lo (11 + 13 * k + 1) (by omega), lo (11 + 13 * k + 2) (by omega), lo (11 + 13 * k + 9) (by omega), lo (11 + 13 * k + 7) (by omega)]
      exact dOK_0 (hD k a b)
theorem elR_inv {τ : Int → Int} (h : gOK τ 0) (n : Nat) : ∀ j : Nat, (j : Int) ≤ τ 7 → gOK (elR τ n j) 0 ∧ (∀ i : Int, i < 12 → elR τ n j i = τ i) := by
  intro j
  induction j with
  | zero => intro _; exact ⟨h, fun _ _ => rfl⟩
  | succ j ih =>
    intro hj
    obtain ⟨a, b⟩ := ih (by omega)
    have e7 := b 7 (by decide)
    have hd := a.2.2 j (by omega) (by omega)
    refine ⟨gOK_inM a (by omega) (rOK_miN (rOK_of hd) (qOK_of a.2.1) (cpow_rng a.1 j) n) ?_, fun i hi => ?_⟩
    · rw [miN_hi (Or.inl rfl)]
      unfold mrec
      rw [Int.add_zero]
    · show inM (elR τ n j) j _ i = τ i
      by_cases hx : i < 11 + 13 * (j : Int)
      · rw [inM_out (Or.inl hx)]
        exact b i hi
      · have e0 : i = 11 + 13 * (j : Int) + 0 := by omega
        rw [e0, inM_in (by decide), miN_hi (Or.inl rfl)]
        show elR τ n j (11 + 13 * (j : Int) + 0) = τ (11 + 13 * (j : Int) + 0)
        exact b _ (by omega)
/-! the House's questions -/
def brC (τ : Int → Int) : Nat → Int
  | 0 => 0
  | n + 1 => orI (brC τ n) (if τ (11 + 13 * (n : Int) + 7) = 0 then 0 else shI 1 n)
def onC (τ : Int → Int) : Nat → Int
  | 0 => 0
  | n + 1 => orI (onC τ n) (if τ (102 + 3 * (n : Int) + 2) = 0 then 0 else shI 1 n)
theorem brC_rng (τ : Int → Int) : ∀ n : Nat, n ≤ 7 → 0 ≤ brC τ n ∧ brC τ n < 2147483648 := by
  intro n
  induction n with
  | zero => intro _; exact ⟨Int.le_refl _, by show (0 : Int) < 2147483648; decide⟩
  | succ n ih =>
    intro h
    refine orI_rng (ih (by omega)) ?_
    split
    · decide
    · exact shI_rng (by decide) (by omega)
theorem onC_rng (τ : Int → Int) : ∀ n : Nat, n ≤ 12 → 0 ≤ onC τ n ∧ onC τ n < 2147483648 := by
  intro n
  induction n with
  | zero => intro _; exact ⟨Int.le_refl _, by show (0 : Int) < 2147483648; decide⟩
  | succ n ih =>
    intro h
    refine orI_rng (ih (by omega)) ?_
    split
    · decide
    · exact shI_rng (by decide) (by omega)
def blC (τ : Int → Int) : Nat → Int
  | 0 => 0
  | n + 1 => blC τ n + τ (11 + 13 * (n : Int) + 8)
/-- what missed() needs of a record -/
def uOK (f : Int → Int) : Prop := (-2147483648 ≤ f 3 + f 4 ∧ f 3 + f 4 < 2147483648) ∧ (0 ≤ f 1 ∧ f 1 < 6000) ∧ (0 ≤ f 5 ∧ f 5 < 1000000000000)
theorem msM_rng {f : Int → Int} (h : uOK f) : -9223372036854775808 ≤ msM f ∧ msM f < 9223372036854775808 := by
  obtain ⟨h1, h2, h3⟩ := h
  unfold msM
  omega
def mmC (τ : Int → Int) : Nat → Int
  | 0 => 0
  | n + 1 => if msM (mrec τ (mmC τ n)) < msM (mrec τ ((n : Int) + 1)) then (n : Int) + 1 else mmC τ n
theorem mmC_rng (τ : Int → Int) : ∀ n : Nat, 0 ≤ mmC τ n ∧ mmC τ n ≤ n := by
  intro n
  induction n with
  | zero => exact ⟨Int.le_refl _, Int.le_refl _⟩
  | succ n ih => unfold mmC; split <;> omega
def tbC (τ : Int → Int) (k : Int) : Nat → Int
  | 0 => 0
  | n + 1 => tbC τ k n + (if τ (11 + 13 * (k + 1 + (n : Int)) + 0) = k then trn τ (k + 1 + (n : Int)) else 0)
def mtS (f st : Int → Int) (pw t : Int) : Nat → Int → Int → Int
  | 0, n => miN f st pw t n.toNat
  | g + 1, n => if 0 < rnT (miN f st pw t n.toNat) st 1 pw then rnM (miN f st pw t n.toNat) st 1 pw (ngt (t + n)) else mtS f st pw t g (n + 1)
theorem mtR_go {f st : Int → Int} {pw t n : Int} {g : Nat} (h : ¬ 0 < rnT (miN f st pw t n.toNat) st 1 pw) : mtR f st pw t (g + 1) n = mtR f st pw t g (n + 1) := if_neg h
theorem mtR_hit {f st : Int → Int} {pw t n : Int} {g : Nat} (h : 0 < rnT (miN f st pw t n.toNat) st 1 pw) : mtR f st pw t (g + 1) n = n + 1 := if_pos h
theorem mtS_go {f st : Int → Int} {pw t n : Int} {g : Nat} (h : ¬ 0 < rnT (miN f st pw t n.toNat) st 1 pw) : mtS f st pw t (g + 1) n = mtS f st pw t g (n + 1) := if_neg h
theorem mtS_hit {f st : Int → Int} {pw t n : Int} {g : Nat} (h : 0 < rnT (miN f st pw t n.toNat) st 1 pw) : mtS f st pw t (g + 1) n = rnM (miN f st pw t n.toNat) st 1 pw (ngt (t + n)) := if_pos h
theorem rnT_rng {f st : Int → Int} {n pw : Int} (hf : rOK f) (hs : qOK st) (hn : 1 ≤ n ∧ n ≤ 5000) (hp : 0 ≤ pw ∧ pw ≤ 48000) : 0 ≤ rnT f st n pw ∧ rnT f st n pw ≤ 100000 := by
  have := wayS_rng hf hs hn hp
  have h1 := hf.1
  rw [rnT_e]
  omega
section XB7
variable {p : Program} {l : Launch} {e : Env} {R : Room} {s : State} {m : MethodId} {args : Array Value} {below : List Frame} {meth : Method} {c : Code} {H : Heap} {locs : List Loc} {cells slots : Nat} {Q : State → Prop} {cc : ByteArray} {pc : Nat} {ls : Array Slot} {rest : List Value} {D : va_G} {cs : Nat → ClassId}
variable {y : MethodName} {bytes : ByteArray} {maxL nL n index : Nat} {ret : Option FieldType} {ws : List Cond} {rm : Room} {Ts : List Cond} {own host C : String} {b : Nat} {As : List Value} {P : Heap → Prop} {v : Value}
theorem x_retR2 {v : Option Value} {a : Array Value} {st0 : List Value} (hr : va_Run p l e R s m args below meth c H locs cells slots 0 0 (F0 m pc ls st0) rest (kS v a) (fun _ => False)) (kk : W p l e R s m args below meth c H locs cells slots Q (F0 m (pc + 3) ls (v.toList ++ rest))) : W p l e R s m args below meth c H locs cells slots Q (F0 m pc ls st0) := by
  intro T hT X
  obtain ⟨v2, st₀, t, T', L, h0, X', hL, e1, e2, ⟨hv, hh⟩, st⟩ := hr T hT X
  cases hv
  obtain ⟨t2, a1, b1⟩ := kk T' (by rw [e1, hh, h0]) (Stand.forget X' (fun q h => (hL q h).elim))
  exact ⟨t2, st t2 a1, b1⟩
/-- a static method of a nest mate -/
theorem x_callNR (S : CallFix p m c cc nL s args Ts own) (hK : kK D cs s) (hM : kR D cs l y ws rm As P (some v)) (cw : va_CN R s args own index y host bytes maxL ret ws rm 0 0 n ∧ (Cond.static y).before args s = true ∧ True) (hP : P H) (hn : As.length = n) (hsize : ls.size = nL) (hW : (rest.map fun v => v.category).sum ≤ 8) (d : decode cc pc = .ok (.invokestatic index, 3)) (hf : cells ≤ R.cells ∧ slots ≤ R.slots) (kk : W p l e R s m args below meth c H locs cells slots Q (F0 m (pc + 3) ls (v :: rest))) : W p l e R s m args below meth c H locs cells slots Q (F0 m pc ls (As.reverse ++ rest)) :=
  x_retR2 (va_runSN S hM cw ⟨kW_blind, kW_pre hK hP⟩ rfl hn hsize rfl (lv_room hW) d hf) kk
end XB7
theorem hsAt_cong {D : va_G} {cs : Nat → ClassId} {a : Int → Nat} {τ τ2 : Int → Int} {H : Heap} (h : hsAt D cs a τ H) (e : hEq τ τ2) : hsAt D cs a τ2 H := fun i h0 h1 => by
  rw [← hcell_eq e i h0 (by omega)]
  exact h i h0 h1
