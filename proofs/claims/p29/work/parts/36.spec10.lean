/-! the class's answers to questions -/
def ofC (τ : Int → Int) (k w : Int) : Int :=
  if w = 0 then τ (11 + 13 * k + 0) else if w = 1 then cpow τ k else if w = 2 then τ (11 + 13 * k + 1) else if w = 3 then τ (11 + 13 * k + 2)
  else if w = 4 then τ (11 + 13 * k + 3) else if w = 5 then τ (11 + 13 * k + 4) else if w = 6 then τ (11 + 13 * k + 5) / 6000 else if w = 7 then τ (11 + 13 * k + 6)
  else if w = 8 then (if τ (11 + 13 * k + 7) = 0 then 0 else 1) else if w = 9 then τ (11 + 13 * k + 8)
  else if w = 10 then (if τ (11 + 13 * k + 2) < 160 then max 1 (τ 3 - τ (11 + 13 * k + 9)) else -6) else if w = 11 then τ (11 + 13 * k + 10) else -2
def olC (τ : Int → Int) (k w : Int) : Int :=
  if w = 0 then τ (102 + 3 * k + 0) else if w = 1 then τ (102 + 3 * k + 1) else if w = 2 then (if τ (102 + 3 * k + 2) = 0 then 0 else 1) else -2
def cntC (τ : Int → Int) (kp ln w : Int) : Int :=
  if w = 0 then τ 6 else if w = 1 then ngt (τ 6) else if w = 2 then τ 7 else if w = 3 then τ 8 else if w = 4 then onC τ (τ 8).toNat else if w = 5 then brC τ (τ 7).toNat
  else if w = 6 then trS τ (τ 7).toNat else if w = 7 then blC τ (τ 7).toNat else if w = 8 then τ 10 else if w = 9 then τ 0 else if w = 10 then τ 1 else if w = 11 then τ 2
  else if w = 12 then τ 3 else if w = 13 then τ 4 else if w = 14 then τ 5 else if w = 15 then ln else if w = 16 then kp else -2
theorem rOK_m {τ : Int → Int} {k : Int} (h : gOK τ 0) (hk : 0 ≤ k ∧ k < τ 7) : rOK (mrec τ k) := rOK_of (h.2.2 k hk.1 hk.2)
