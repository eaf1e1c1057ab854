/-! copies of a row into another -/
def cpN (f g : Int → Int) (d j : Int) : Int → Int := fun i => if d ≤ i ∧ i < d + j then g (i - d) else f i
theorem cpN_0 (f g : Int → Int) (d : Int) : cpN f g d 0 = f := by
  funext i
  exact if_neg (by omega)
theorem cpN_step {f g : Int → Int} {d j i v : Int} (hi : i = d + j) (hv : v = g j) (h : 0 ≤ j) : up (cpN f g d j) i v = cpN f g d (j + 1) := by
  subst hi; subst hv
  funext x
  unfold up cpN
  by_cases e : x = d + j
  · subst e
    rw [if_pos rfl, if_pos (by omega)]
    congr 1; omega
  · rw [if_neg e]
    by_cases q : d ≤ x ∧ x < d + j
    · rw [if_pos q, if_pos (by omega)]
    · rw [if_neg q, if_neg (by omega)]
theorem cpN_in {f g : Int → Int} {d j i : Int} (h : d ≤ i ∧ i < d + j) : cpN f g d j i = g (i - d) := if_pos h
theorem cpN_out {f g : Int → Int} {d j i : Int} (h : ¬ (d ≤ i ∧ i < d + j)) : cpN f g d j i = f i := if_neg h
/-- what remembers() does -/
def remQ (kn : Int) : Int := if kn = 6 then 5 else kn
def remO (pa : Int → Int) (kn : Int) : Int → Int := if kn = 6 then cpN pa (fun i => pa (138 + i)) 0 690 else pa
def remP (σ pa : Int → Int) (kn : Int) : Int → Int := cpN (remO pa kn) σ (138 * remQ kn) 138
def remK (kn : Int) : Int := remQ kn + 1
/-! minutes -/
def gOK (σ : Int → Int) (q : Int) : Prop := lOK σ ∧ sOK σ q ∧ ∀ k : Int, 0 ≤ k → k < σ 7 → dOK σ q k
theorem pOne_n {σ : Int → Int} {q k i : Int} (h : i ≠ q + 11 + 13 * k + 1 ∧ i ≠ q + 11 + 13 * k + 2 ∧ i ≠ q + 11 + 13 * k + 3 ∧ i ≠ q + 11 + 13 * k + 4 ∧ i ≠ q + 11 + 13 * k + 5 ∧ i ≠ q + 11 + 13 * k + 9) : pOne σ q k i = σ i := by
  have hD : pOneD σ q k i = σ i := by
    unfold pOneD
    rw [up_n (by omega), pOneC_n (by omega) (by omega) (by omega) (by omega)]
  unfold pOne
  split
  · exact hD
  · unfold pOneE
    rw [up_n (by omega), up_n (by omega)]
    exact hD
theorem pOne_1 {σ : Int → Int} {q k : Int} (hq : q = 0 ∨ q = 138) (hk : 0 ≤ k) : pOne σ q k (q + 11 + 13 * k + 1) = pOneP σ q k % 6000 := by
  have hI : q + 11 + 13 * k + 1 ≠ pOneI σ q k := by unfold pOneI; split <;> omega
  have hD : pOneD σ q k (q + 11 + 13 * k + 1) = pOneP σ q k % 6000 := by
    unfold pOneD
    rw [up_n (by omega)]
    unfold pOneC
    rw [up_n hI]
    exact up_s _ _ _
  unfold pOne
  split
  · exact hD
  · unfold pOneE
    rw [up_n (by omega), up_n (by omega)]
    exact hD
theorem pOne_2 {σ : Int → Int} {q k : Int} (hq : q = 0 ∨ q = 138) (hk : 0 ≤ k) : pOne σ q k (q + 11 + 13 * k + 2) = if σ (q + 11 + 13 * k + 9) + 1 < σ (q + 3) then σ (q + 11 + 13 * k + 2) else if σ (q + 11 + 13 * k + 2) < 160 then σ (q + 11 + 13 * k + 2) + 1 else σ (q + 11 + 13 * k + 2) := by
  have h9 := pOneD_9 (σ := σ) (q := q) (k := k) hq
  have h3 := pOneD_n (σ := σ) (q := q) (k := k) (i := q + 3) hq (by omega) hk
  have h2 := pOneD_2 (σ := σ) (q := q) (k := k) hq
  have hE : pOneE σ q k (q + 11 + 13 * k + 2) = σ (q + 11 + 13 * k + 2) := (up_n (by omega)).trans h2
  unfold pOne
  rw [h9, h3]
  split
  · exact h2
  · rw [up_s, hE]
    split <;> omega
theorem pOne_9 {σ : Int → Int} {q k : Int} (hq : q = 0 ∨ q = 138) (hk : 0 ≤ k) : pOne σ q k (q + 11 + 13 * k + 9) = if σ (q + 11 + 13 * k + 9) + 1 < σ (q + 3) then σ (q + 11 + 13 * k + 9) + 1 else 0 := by
  have h9 := pOneD_9 (σ := σ) (q := q) (k := k) hq
  have h3 := pOneD_n (σ := σ) (q := q) (k := k) (i := q + 3) hq (by omega) hk
  unfold pOne
  rw [h9, h3]
  split
  · exact h9
  · unfold pOneE
    rw [up_n (by omega), up_s]
theorem lOK_of {σ τ : Int → Int} (h : lOK σ) (h7 : τ 7 = σ 7) (h8 : τ 8 = σ 8) (hm : ∀ i : Int, 1 ≤ i → i < σ 7 → τ (11 + 13 * i) = σ (11 + 13 * i)) (hl : ∀ j : Int, 102 ≤ j → j < 138 → τ j = σ j) : lOK τ := by
  obtain ⟨h1, h2, h3, h4⟩ := h
  refine ⟨by rw [h7]; exact h1, by rw [h8]; exact h2, fun i a b => ?_, fun j a b => ?_⟩
  · rw [h7] at b
    rw [hm i a b]
    exact h3 i a b
  · rw [h8] at b
    rw [hl (102 + 3 * j) (by omega) (by omega), hl (102 + 3 * j + 1) (by omega) (by omega), hl (102 + 3 * j + 2) (by omega) (by omega), h7]
    exact h4 j a b
theorem sOK_of {σ τ : Int → Int} {q : Int} (h : sOK σ q) (h0 : τ (q + 0) = σ (q + 0)) (h1 : τ (q + 1) = σ (q + 1)) (h2 : τ (q + 2) = σ (q + 2)) (h3 : τ (q + 3) = σ (q + 3)) (h6 : 0 ≤ τ (q + 6) ∧ τ (q + 6) < 1000000) : sOK τ q := by
  unfold sOK
  rw [h0, h1, h2, h3]
  exact ⟨h.1, h.2.1, h.2.2.1, h.2.2.2.1, h6⟩
theorem gOK_pOne {σ : Int → Int} {q k : Int} (h : gOK σ q) (hq : q = 0 ∨ q = 138) (hk : 0 ≤ k ∧ k < σ 7) : gOK (pOne σ q k) q := by
  obtain ⟨hL, hS, hD⟩ := h
  have h7 := hL.1
  have e7 : pOne σ q k 7 = σ 7 := pOne_n (by omega)
  refine ⟨lOK_of hL e7 (pOne_n (by omega)) (fun i a b => pOne_n (by omega)) (fun j a b => pOne_n (by omega)), sOK_of hS (pOne_n (by omega)) (pOne_n (by omega)) (pOne_n (by omega)) (pOne_n (by omega)) (by rw [pOne_n (by omega)]; exact hS.2.2.2.2), fun j a b => ?_⟩
  rw [e7] at b
  have hj := hD j a b
  by_cases e : j = k
  · subst e
    unfold dOK
    rw [pOne_1 hq a, pOne_2 hq a, pOne_9 hq a, pOne_n (i := q + 11 + 13 * j + 7) (by omega)]
    obtain ⟨d1, d2, d3, d4⟩ := hj
    have s3 := hS.2.2.2.1
    refine ⟨by omega, ?_, ?_, d4⟩
    · split
      · exact d2
      · split <;> omega
    · split <;> omega
  · unfold dOK
    rw [pOne_n (i := q + 11 + 13 * j + 1) (by omega), pOne_n (i := q + 11 + 13 * j + 2) (by omega), pOne_n (i := q + 11 + 13 * j + 9) (by omega), pOne_n (i := q + 11 + 13 * j + 7) (by omega)]
    exact hj
theorem gOK_time {σ : Int → Int} {q v : Int} (h : gOK σ q) (hq : q = 0 ∨ q = 138) (hv : 0 ≤ v ∧ v < 1000000) : gOK (up σ (q + 6) v) q := by
  obtain ⟨hL, hS, hD⟩ := h
  have h7 := hL.1
  have e7 : up σ (q + 6) v 7 = σ 7 := up_n (by omega)
  refine ⟨lOK_of hL e7 (up_n (by omega)) (fun i a b => up_n (by omega)) (fun j a b => up_n (by omega)), sOK_of hS (up_n (by omega)) (up_n (by omega)) (up_n (by omega)) (up_n (by omega)) (by rw [up_s]; exact hv), fun j a b => ?_⟩
  rw [e7] at b
  unfold dOK
  rw [up_n (k := q + 11 + 13 * j + 1) (by omega), up_n (k := q + 11 + 13 * j + 2) (by omega), up_n (k := q + 11 + 13 * j + 9) (by omega), up_n (k := q + 11 + 13 * j + 7) (by omega)]
  exact hD j a b
def pRow (σ : Int → Int) (q : Int) : Nat → Int → Int
  | 0 => σ
  | n + 1 => pOne (pRow σ q n) q n
def tRow (σ : Int → Int) (q : Int) : Nat → Int
  | 0 => 0
  | n + 1 => tRow σ q n + pOneP (pRow σ q n) q n / 6000
def pMin (σ : Int → Int) (q : Int) : Int → Int := up (pRow σ q (σ 7).toNat) (q + 6) (pRow σ q (σ 7).toNat (q + 6) + 1)
def pMins (σ : Int → Int) (q : Int) : Nat → Int → Int
  | 0 => σ
  | n + 1 => pMin (pMins σ q n) q
def tMins (σ : Int → Int) (q : Int) : Nat → Int
  | 0 => 0
  | n + 1 => tMins σ q n + tRow (pMins σ q n) q (pMins σ q n 7).toNat
/-! settings, meters, loads, visits -/
def loS (k : Int) : Int := if k = 3 then 100 else 0
def hiS (k : Int) : Int := if k = 1 then 9 else if k = 2 then 1 else if k = 3 then 5000 else 99
def setOK (k v : Int) : Prop := (0 ≤ k ∧ k ≤ 5) ∧ loS k ≤ v ∧ v ≤ hiS k
theorem loS_rng (k : Int) : 0 ≤ loS k ∧ loS k ≤ 100 := by unfold loS; split <;> omega
theorem hiS_rng (k : Int) : 0 ≤ hiS k ∧ hiS k ≤ 5000 := by unfold hiS; repeat' split <;> omega
def wnM (σ : Int → Int) (k : Int) : Int := if 0 < σ 7 ∧ ¬ (0 ≤ k ∧ k < σ 7) then -1 else if σ 7 = 7 then -4 else 0
def comZ (σ : Int → Int) : Int → Int := cpN σ (fun _ => 0) (0 + 11 + 13 * σ 7) 13
def comA (σ : Int → Int) : Int → Int := up (comZ σ) 10 (comZ σ 10 + 1)
def comB (σ : Int → Int) (k : Int) : Int → Int := up (comA σ) (0 + 11 + 13 * σ 7 + 0) (if σ 7 = 0 then -1 else k)
def comC (σ : Int → Int) (k : Int) : Int → Int := up (comB σ k) (0 + 11 + 13 * σ 7 + 2) 100
def comD (σ : Int → Int) (k : Int) : Int → Int := up (comC σ k) (0 + 11 + 13 * σ 7 + 6) (comC σ k 10)
def comF (σ : Int → Int) (k : Int) : Int → Int := up (comD σ k) 7 (comD σ k 7 + 1)
theorem comA_7 {σ : Int → Int} (h : 0 ≤ σ 7) : comA σ 7 = σ 7 := (up_n (by omega)).trans (cpN_out (by omega))
theorem comD_7 {σ : Int → Int} {k : Int} (h : 0 ≤ σ 7) : comD σ k 7 = σ 7 := (up_n (by omega)).trans ((up_n (by omega)).trans ((up_n (by omega)).trans (comA_7 h)))
def wnL (σ : Int → Int) (k w : Int) : Int := if ¬ (0 ≤ k ∧ k < σ 7) then -1 else if ¬ (1 ≤ w ∧ w ≤ 4000) then -2 else if σ 8 = 12 then -4 else 0
def ldA (σ : Int → Int) (k w : Int) : Int → Int := up (up (up σ (102 + 3 * σ 8) k) (102 + 3 * σ 8 + 1) w) (102 + 3 * σ 8 + 2) 0
def ldF (σ : Int → Int) (k w : Int) : Int → Int := up (ldA σ k w) 8 (ldA σ k w 8 + 1)
theorem ldA_8 {σ : Int → Int} {k w : Int} (h : 0 ≤ σ 8) : ldA σ k w 8 = σ 8 := (up_n (by omega)).trans ((up_n (by omega)).trans (up_n (by omega)))
def tnF (σ : Int → Int) (k : Int) : Int → Int := up σ (102 + 3 * k + 2) (1 - σ (102 + 3 * k + 2))
def wnT (σ : Int → Int) (k : Int) : Int := if ¬ (0 ≤ k ∧ k < σ 7) then -1 else if σ (11 + 13 * k + 7) = 1 then -5 else 0
def tpF (σ : Int → Int) (k : Int) : Int → Int := up σ (0 + 11 + 13 * k + 7) 1
def billS (σ : Int → Int) (k : Int) : Int := σ 4 * (σ (0 + 11 + 13 * k + 3) - σ (0 + 11 + 13 * k + 11)) + σ 5 * (σ (0 + 11 + 13 * k + 4) - σ (0 + 11 + 13 * k + 12))
def vsA (σ : Int → Int) (k : Int) : Int → Int := up σ (0 + 11 + 13 * k + 11) (σ (0 + 11 + 13 * k + 3))
def vsB (σ : Int → Int) (k : Int) : Int → Int := up (vsA σ k) (0 + 11 + 13 * k + 12) (vsA σ k (0 + 11 + 13 * k + 4))
def vsC (σ : Int → Int) (k : Int) : Int → Int := up (vsB σ k) (0 + 11 + 13 * k + 8) (vsB σ k (0 + 11 + 13 * k + 8) + billS σ k)
def vsD (σ : Int → Int) (k : Int) : Int → Int := up (vsC σ k) 9 (vsC σ k 9 + billS σ k)
def vsE (σ : Int → Int) (k : Int) : Int → Int := up (up (vsD σ k) (0 + 11 + 13 * k + 2) 100) (0 + 11 + 13 * k + 9) 0
def vsG (σ : Int → Int) (k : Int) : Int → Int := up (vsE σ k) (0 + 11 + 13 * k + 10) (vsE σ k (0 + 11 + 13 * k + 10) + 1)
def vsH (σ : Int → Int) (k : Int) : Int → Int := up (vsG σ k) 10 (vsG σ k 10 + 1)
def vsF (σ : Int → Int) (k : Int) : Int → Int := if vsG σ k (0 + 11 + 13 * k + 7) = 1 then up (up (vsH σ k) (0 + 11 + 13 * k + 6) (vsH σ k 10)) (0 + 11 + 13 * k + 7) 0 else vsG σ k
def wnP (σ : Int → Int) (n : Int) : Int := if ¬ (1 ≤ n ∧ n ≤ 1440) then -2 else if 99999 < σ 6 + n then -5 else 0
theorem vsG_7 {σ : Int → Int} {k : Int} (hk : 0 ≤ k) : vsG σ k (0 + 11 + 13 * k + 7) = σ (0 + 11 + 13 * k + 7) := (up_n (by omega)).trans ((up_n (by omega)).trans ((up_n (by omega)).trans ((up_n (by omega)).trans ((up_n (by omega)).trans ((up_n (by omega)).trans (up_n (by omega)))))))
/-! numbers into texts -/
def dgs : Nat → Int → Nat
  | 0, _ => 1
  | f + 1, v => if v < 10 then 1 else dgs f (v / 10) + 1
def ndg (v : Int) : Nat := dgs 9 v
def numW (pd : Int → Int) (ln v : Int) : Int → Int := fun i => if ln ≤ i ∧ i < ln + ndg v then 48 + v / 10 ^ (ndg v - 1 - (i - ln).toNat) % 10 else pd i
section XB3
variable {p : Program} {l : Launch} {e : Env} {R : Room} {s : State} {m : MethodId} {args : Array Value} {below : List Frame} {meth : Method} {c : Code} {H : Heap} {locs : List Loc} {cells slots : Nat} {Q : State → Prop} {cc : ByteArray} {pc : Nat} {ls : Array Slot} {rest : List Value}
theorem x_tabIn (hx : p.tables.exec = Jvm.exec) (hb : c.code = cc) {dflt lo hi v k : Int} {offs : Array Int} {len : Nat} {off : Int} {tgt : Nat} (d : decode cc pc = .ok (.tableswitch dflt lo hi offs, len)) (he : v = k) (hr : -2147483648 ≤ k ∧ k < 2147483648) (h1 : ¬ k < lo) (h2 : ¬ hi < k) (ho : offs[(k - lo).toNat]? = some off) (ht : (pc : Int) + off = (tgt : Int)) (kk : W p l e R s m args below meth c H locs cells slots Q (F0 m tgt ls rest)) : W p l e R s m args below meth c H locs cells slots Q (F0 m pc ls (.int (zI v) :: rest)) := by
  subst he
  exact lv_tableIn hx hb d (by rw [zI_toInt hr]; exact h1) (by rw [zI_toInt hr]; exact h2) (by rw [zI_toInt hr]; exact ho) ht kk
theorem x_tabOut (hx : p.tables.exec = Jvm.exec) (hb : c.code = cc) {dflt lo hi v : Int} {offs : Array Int} {len : Nat} {tgt : Nat} (d : decode cc pc = .ok (.tableswitch dflt lo hi offs, len)) (h : v < lo ∨ hi < v) (hr : -2147483648 ≤ v ∧ v < 2147483648) (ht : (pc : Int) + dflt = (tgt : Int)) (kk : W p l e R s m args below meth c H locs cells slots Q (F0 m tgt ls rest)) : W p l e R s m args below meth c H locs cells slots Q (F0 m pc ls (.int (zI v) :: rest)) :=
  lv_tableOut hx hb d (by rw [zI_toInt hr]; exact h) ht kk
theorem x_look (hx : p.tables.exec = Jvm.exec) (hb : c.code = cc) {dflt v : Int} {ps : Array (Int × Int)} {len : Nat} {off : Int} {tgt : Nat} (d : decode cc pc = .ok (.lookupswitch dflt ps, len)) (hp : (ps.toList.zip (ps.toList.drop 1)).all (fun (a, next) => a.1 < next.1) = true) (ho : Op.lookupswitch.offset ps.toList dflt v = off) (hr : -2147483648 ≤ v ∧ v < 2147483648) (ht : (pc : Int) + off = (tgt : Int)) (kk : W p l e R s m args below meth c H locs cells slots Q (F0 m tgt ls rest)) : W p l e R s m args below meth c H locs cells slots Q (F0 m pc ls (.int (zI v) :: rest)) :=
  lv_lookup hx hb d hp (by rw [zI_toInt hr]; exact ho) ht kk
end XB3
