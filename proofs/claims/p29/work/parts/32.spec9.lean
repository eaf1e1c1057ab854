/-! the Grammar's answers -/
def ifD (s t : Int) : Int := if 48 ≤ s ∧ s ≤ 57 then t else 0
def nmA (s : Int) : Int := if s = 109 then 2 else if s = 108 then 3 else if s = 115 ∨ s = 116 then 5 else if s = 98 ∨ s = 118 then 9 else 0
def stA (k s : Int) : Int :=
  if s = 59 then (if k = 2 ∨ (6 ≤ k ∧ k ≤ 8) ∨ k = 10 then 1 else 0)
  else if k = 1 then nmA s else if k = 2 then ifD s 10 else if k = 3 then ifD s 4 else if k = 4 then (if s = 61 then 5 else 0)
  else if k = 5 then (if s = 48 then 10 else ifD s 6) else if k = 6 then ifD s 7 else if k = 7 then ifD s 8 else if k = 8 then ifD s 10 else if k = 9 then ifD s 10 else 0
theorem stA_rng (k s : Int) : 0 ≤ stA k s ∧ stA k s ≤ 10 := by
  unfold stA nmA ifD
  repeat' split
  all_goals omega
def fO (pd : Int → Int) (ln : Int) : Nat → Int → Int → Int
  | 0, i, k => if k = 2 ∨ (6 ≤ k ∧ k ≤ 8) ∨ k = 10 then -6 else i
  | n + 1, i, k => if stA k (sgA pd ln i) = 0 then i else fO pd ln n (i + 1) (stA k (sgA pd ln i))
theorem fO_hit {pd : Int → Int} {ln i k : Int} {n : Nat} (h : stA k (sgA pd ln i) = 0) : fO pd ln (n + 1) i k = i := if_pos h
theorem fO_go {pd : Int → Int} {ln i k : Int} {n : Nat} (h : ¬ stA k (sgA pd ln i) = 0) : fO pd ln (n + 1) i k = fO pd ln n (i + 1) (stA k (sgA pd ln i)) := if_neg h
theorem sgA_rng {pd : Int → Int} {ln k : Int} (hp : ∀ i : Int, 0 ≤ i → i < ln → 0 ≤ pd i ∧ pd i < 65536) : -1 ≤ sgA pd ln k ∧ sgA pd ln k < 65536 := by
  unfold sgA
  split
  · have := hp k (by omega) (by omega); omega
  · omega
