/-! the History, the EnergyDiscs as they are born -/
theorem nAt_last {D : va_G} {b : Nat} {n : Int} {cell : Int → va_E} {e : va_E} {H : Heap} (h : nAt D b (n + 1) (upE cell n e) H) (hn : 0 ≤ n) : nAt D (sq b n) 1 (fun _ => e) H :=
  ⟨by have := h.1; unfold sq; omega, by decide, fun i h0 h1 => by
    have q := h.2.2 n hn (by omega)
    rw [upE_s] at q
    rw [show sq (sq b n) i = sq b n by unfold sq; omega]
    exact q⟩
theorem sq_sq {b : Nat} {i j : Int} (hi : 0 ≤ i) (hj : 0 ≤ j) : sq (sq b i) j = sq b (i + j) := by unfold sq; omega
theorem hcellA {D : va_G} {cs : Nat → ClassId} {a a2 : Int → Nat} {τ : Int → Int} {q : Nat} {H : Heap} {t : Int} (e : ∀ t : Int, 0 ≤ t → t < 23 → a2 t = a t) (h0 : 0 ≤ t) (h1 : t < 23) (h : va_at D vwCl (q, hcell cs a τ t) H) : va_at D vwCl (q, hcell cs a2 τ t) H := by
  by_cases q0 : t = 0
  · subst q0
    have h2 : va_at D vwCl (q, .inr (1, hoL a τ)) H := h
    have e2 : hoL a2 τ = hoL a τ := by unfold hoL; rw [e 1 (by decide) (by decide), e 2 (by decide) (by decide), e 3 (by decide) (by decide)]
    show va_at D vwCl (q, .inr (1, hoL a2 τ)) H
    rw [e2]; exact h2
  by_cases q1 : t = 1
  · subst q1; exact h
  by_cases q2 : t = 2
  · subst q2
    exact va_atQ h (fun k hk => by rw [e (4 + k) (by omega) (by omega)])
  by_cases q3 : t = 3
  · subst q3
    exact va_atQ h (fun k hk => by rw [e (11 + k) (by omega) (by omega)])
  · have e4 : hcell cs a2 τ t = hcell cs a τ t := by
      unfold hcell
      rw [if_neg q0, if_neg q1, if_neg q2, if_neg q3, if_neg q0, if_neg q1, if_neg q2, if_neg q3]
    rw [e4]; exact h
def ycl (cs : Nat → ClassId) (b : Nat) (x : Int) (i : Int) : va_E :=
  if i = 0 then .inr (0, [.ref (sq b 1), .int (zI 0), .int (zI 0)])
  else if i = 1 then .inl (cs 6, (7, .inr (.inr (.inr (.inr fun k : Nat => if (k : Int) < x then some (sq b (2 + 23 * (k : Int))) else none)))))
  else hcell cs (sq (sq b (2 + 23 * ((i - 2) / 23)))) hT0 ((i - 2) % 23)
def xcl (cs : Nat → ClassId) (b : Nat) (L : List Value) (w : Int) (i : Int) : va_E :=
  if i = 0 then .inr (5, L)
  else if i < 24 then hcell cs (sq (sq b 1)) hT0 (i - 1)
  else if i < 25 then .inr (3, mvL (bgM (-6) 0))
  else if i < 27 then pcell cs (sq (sq b 25)) (fun _ => 0) 0 (i - 25)
  else if i < 190 then ycl cs (sq b 27) 7 (i - 27)
  else if i = 190 then .inl (cs 6, (2, .inr (.inr (.inr (.inr fun k : Nat => if (k : Int) < w then some (sq b (192 + 23 * (k : Int))) else none)))))
  else if i = 191 then .inl (cs 2, (2, .inl fun _ => 0))
  else hcell cs (sq (sq b (192 + 23 * ((i - 192) / 23)))) hT0 ((i - 192) % 23)
section YX
variable {D : va_G} {cs : Nat → ClassId} {b : Nat} {x x2 w w2 i j : Int} {L L2 : List Value} {H : Heap}
theorem ycl_1 : ycl cs b x 1 = .inl (cs 6, (7, .inr (.inr (.inr (.inr fun k : Nat => if (k : Int) < x then some (sq b (2 + 23 * (k : Int))) else none))))) := rfl
theorem ycl_e (h : i ≠ 1 ∨ x = x2) : ycl cs b x i = ycl cs b x2 i := by
  unfold ycl
  by_cases q0 : i = 0
  · rw [if_pos q0, if_pos q0]
  · rw [if_neg q0, if_neg q0]
    by_cases q1 : i = 1
    · rw [if_pos q1, if_pos q1, show x = x2 by omega]
    · rw [if_neg q1, if_neg q1]
theorem ycl_h {k : Int} (hk : 0 ≤ k) (h0 : 0 ≤ i) (h1 : i < 23) : ycl cs b x (2 + 23 * k + i) = hcell cs (sq (sq b (2 + 23 * k))) hT0 i := by
  unfold ycl
  rw [if_neg (by omega), if_neg (by omega), show (2 + 23 * k + i - 2) / 23 = k by omega, show (2 + 23 * k + i - 2) % 23 = i by omega]
theorem xcl_e (h : i ≠ 0 ∨ L = L2) (h2 : i ≠ 190 ∨ w = w2) : xcl cs b L w i = xcl cs b L2 w2 i := by
  unfold xcl
  by_cases q0 : i = 0
  · rw [if_pos q0, if_pos q0]
    rcases h with h | h
    · exact absurd q0 h
    · rw [h]
  · rw [if_neg q0, if_neg q0]
    by_cases q1 : i = 190
    · rcases h2 with h2 | h2
      · exact absurd q1 h2
      · rw [h2]
    · rw [if_neg q1, if_neg q1]
theorem xcl_0 : xcl cs b L w 0 = .inr (5, L) := rfl
theorem xcl_m : xcl cs b L w 24 = .inr (3, mvL (bgM (-6) 0)) := rfl
theorem xcl_q : xcl cs b L w 190 = .inl (cs 6, (2, .inr (.inr (.inr (.inr fun k : Nat => if (k : Int) < w then some (sq b (192 + 23 * (k : Int))) else none))))) := rfl
theorem xcl_z : xcl cs b L w 191 = .inl (cs 2, (2, .inl fun _ => 0)) := rfl
theorem xcl_h (h0 : 0 ≤ i) (h1 : i < 23) : xcl cs b L w (1 + i) = hcell cs (sq (sq b 1)) hT0 i := by
  unfold xcl
  rw [if_neg (by omega), if_pos (by omega), show 1 + i - 1 = i by omega]
theorem xcl_p (h0 : 0 ≤ i) (h1 : i < 2) : xcl cs b L w (25 + i) = pcell cs (sq (sq b 25)) (fun _ => 0) 0 i := by
  unfold xcl
  rw [if_neg (by omega), if_neg (by omega), if_neg (by omega), if_pos (by omega), show 25 + i - 25 = i by omega]
theorem xcl_y (h0 : 0 ≤ i) (h1 : i < 163) : xcl cs b L w (27 + i) = ycl cs (sq b 27) 7 i := by
  unfold xcl
  rw [if_neg (by omega), if_neg (by omega), if_neg (by omega), if_neg (by omega), if_pos (by omega), show 27 + i - 27 = i by omega]
theorem xcl_s {k : Int} (hk : 0 ≤ k) (h0 : 0 ≤ i) (h1 : i < 23) : xcl cs b L w (192 + 23 * k + i) = hcell cs (sq (sq b (192 + 23 * k))) hT0 i := by
  unfold xcl
  rw [if_neg (by omega), if_neg (by omega), if_neg (by omega), if_neg (by omega), if_neg (by omega), if_neg (by omega), if_neg (by omega), show (192 + 23 * k + i - 192) / 23 = k by omega, show (192 + 23 * k + i - 192) % 23 = i by omega]
/-- where the parts of an EnergyDiscs lie -/
def hof (j : Int) : Int := if j = 0 then 1 else if j < 3 then 192 + 23 * (j - 1) else 29 + 23 * (j - 3)
def eof (i : Int) : Int := if i < 1 then 0 else if i < 2 then 24 else if i < 3 then 25 else if i < 4 then 26 else if i < 5 then 27 else if i < 6 then 28 else if i < 7 then 190 else if i < 8 then 191 else hof ((i - 8) / 23) + (i - 8) % 23
def ea (b : Nat) : Int → Nat := fun i => sq b (eof i)
theorem hof_rng (hj : 0 ≤ j) : 0 ≤ hof j := by
  unfold hof
  split
  · omega
  · split <;> omega
theorem eof_h {t : Int} (hj : 0 ≤ j) (h0 : 0 ≤ t) (h1 : t < 23) : eof (8 + 23 * j + t) = hof j + t := by
  unfold eof
  rw [if_neg (by omega), if_neg (by omega), if_neg (by omega), if_neg (by omega), if_neg (by omega), if_neg (by omega), if_neg (by omega), if_neg (by omega), show (8 + 23 * j + t - 8) / 23 = j by omega, show (8 + 23 * j + t - 8) % 23 = t by omega]
theorem ea_h {t : Int} (hj : 0 ≤ j) (h0 : 0 ≤ t) (h1 : t < 23) : ehs (ea b) j t = sq (sq b (hof j)) t := by
  show sq b (eof (8 + 23 * j + t)) = _
  rw [eof_h hj h0 h1, sq_sq (hof_rng hj) h0]
theorem eof_c (h0 : 0 ≤ i) (h1 : i < 238) : (i = 0 ∧ eof i = 0) ∨ (1 ≤ i ∧ i ≤ 5 ∧ eof i = i + 23) ∨ (6 ≤ i ∧ i ≤ 7 ∧ eof i = i + 184) ∨ (8 ≤ i ∧ i < 31 ∧ eof i = i - 7) ∨ (31 ≤ i ∧ i < 77 ∧ eof i = i + 161) ∨ (77 ≤ i ∧ i < 238 ∧ eof i = i - 48) := by
  by_cases q : i < 8
  · unfold eof
    repeat' split
    all_goals omega
  · have e : eof i = hof ((i - 8) / 23) + (i - 8) % 23 := by
      have := eof_h (j := (i - 8) / 23) (t := (i - 8) % 23) (by omega) (by omega) (by omega)
      rw [show 8 + 23 * ((i - 8) / 23) + (i - 8) % 23 = i by omega] at this
      exact this
    rw [e]
    unfold hof
    repeat' split
    all_goals omega
theorem eof_rng (h0 : 0 ≤ i) (h1 : i < 238) : 0 ≤ eof i ∧ eof i < 238 := by
  rcases eof_c h0 h1 with h | h | h | h | h | h <;> omega
theorem eof_inj (h0 : 0 ≤ i) (h1 : i < 238) (h2 : 0 ≤ j) (h3 : j < 238) (h : eof i = eof j) : i = j := by
  rcases eof_c h0 h1 with h | h | h | h | h | h <;> rcases eof_c h2 h3 with g | g | g | g | g | g <;> omega
theorem ea_I : eI (ea b) := fun i j h0 h1 h2 h3 h => eof_inj h0 h1 h2 h3 (by
  have a1 := eof_rng h0 h1
  have a2 := eof_rng h2 h3
  unfold ea sq at h
  omega)
theorem ea_C {q : Nat} (h : eC (ea b) q) : b ≤ q ∧ q < b + 238 := by
  obtain ⟨i, h0, h1, rfl⟩ := h
  have a1 := eof_rng h0 h1
  unfold ea sq
  omega
theorem xcl_hof {t : Int} (hj : 0 ≤ j) (hj2 : j < 10) (h0 : 0 ≤ t) (h1 : t < 23) : xcl cs b L w (hof j + t) = hcell cs (sq (sq b (hof j))) hT0 t := by
  by_cases q0 : j = 0
  · subst q0; exact xcl_h h0 h1
  by_cases q1 : j < 3
  · have e : hof j = 192 + 23 * (j - 1) := by unfold hof; rw [if_neg q0, if_pos q1]
    rw [e]; exact xcl_s (by omega) h0 h1
  · have e : hof j = 29 + 23 * (j - 3) := by unfold hof; rw [if_neg q0, if_neg q1]
    rw [e, show 29 + 23 * (j - 3) + t = 27 + (2 + 23 * (j - 3) + t) by omega, xcl_y (by omega) (by omega), ycl_h (by omega) h0 h1, sq_sq (by decide) (by omega), show 27 + (2 + 23 * (j - 3)) = 29 + 23 * (j - 3) by omega]
def edF (b : Nat) : List Value := [.ref (sq b 1), .ref (sq b 24), .ref (sq b 25), .ref (sq b 27), .ref (sq b 190), .ref (sq b 191)]
theorem eAt_born (h : nAt D b 238 (xcl cs b (edF b) 2) H) : eAt D cs (ea b) hT0 (fun _ => hT0) (fun _ => hT0) (bgM (-6) 0) (fun _ => 0) 0 0 0 (fun _ => 0) H := by
  intro i h0 h1
  by_cases q0 : i = 0
  · subst q0; exact h.2.2 0 (by decide) (by decide)
  by_cases q1 : i = 1
  · subst q1; exact h.2.2 24 (by decide) (by decide)
  by_cases q2 : i = 2
  · subst q2
    have q := h.2.2 25 (by decide) (by decide)
    have e : xcl cs b (edF b) 2 25 = .inr (4, [.ref (sq b 26), .int (zI 0)]) := by
      rw [show (25 : Int) = 25 + 0 from rfl, xcl_p (by decide) (by decide)]
      show (.inr (4, [.ref (sq (sq b 25) 1), .int (zI 0)]) : va_E) = _
      rw [sq_sq (by decide) (by decide)]; rfl
    rw [e] at q
    exact q
  by_cases q3 : i = 3
  · subst q3
    exact h.2.2 26 (by decide) (by decide)
  by_cases q4 : i = 4
  · subst q4
    have q := h.2.2 27 (by decide) (by decide)
    have e : xcl cs b (edF b) 2 27 = .inr (0, [.ref (sq b 28), .int (zI 0), .int (zI 0)]) := by
      rw [show (27 : Int) = 27 + 0 from rfl, xcl_y (by decide) (by decide)]
      show (.inr (0, [.ref (sq (sq b 27) 1), .int (zI 0), .int (zI 0)]) : va_E) = _
      rw [sq_sq (by decide) (by decide)]; rfl
    rw [e] at q
    exact q
  by_cases q5 : i = 5
  · subst q5
    have q := h.2.2 28 (by decide) (by decide)
    have e : xcl cs b (edF b) 2 28 = .inl (cs 6, (7, .inr (.inr (.inr (.inr fun k : Nat => if (k : Int) < 7 then some (sq (sq b 27) (2 + 23 * (k : Int))) else none))))) := by
      rw [show (28 : Int) = 27 + 1 from rfl, xcl_y (by decide) (by decide)]; rfl
    rw [e] at q
    exact va_atQ q (fun k hk => by
      rw [if_pos (by omega), ea_h (j := 3 + (k : Int)) (by omega) (by decide) (by decide), sq_sq (by decide) (by omega), sq_sq (hof_rng (by omega)) (by decide)]
      have e2 : hof (3 + (k : Int)) = 29 + 23 * (k : Int) := by unfold hof; rw [if_neg (by omega), if_neg (by omega)]; omega
      rw [e2, show 27 + (2 + 23 * (k : Int)) = 29 + 23 * (k : Int) + 0 by omega])
  by_cases q6 : i = 6
  · subst q6
    have q := h.2.2 190 (by decide) (by decide)
    rw [xcl_q] at q
    exact va_atQ q (fun k hk => by
      rw [if_pos (by omega), ea_h (j := 1 + (k : Int)) (by omega) (by decide) (by decide), sq_sq (hof_rng (by omega)) (by decide)]
      have e2 : hof (1 + (k : Int)) = 192 + 23 * (k : Int) := by unfold hof; rw [if_neg (by omega), if_pos (by omega)]; omega
      rw [e2, show 192 + 23 * (k : Int) + 0 = 192 + 23 * (k : Int) by omega])
  by_cases q7 : i = 7
  · subst q7
    exact h.2.2 191 (by decide) (by decide)
  · obtain ⟨j, t, hj, hj2, ht0, ht1, rfl⟩ : ∃ j t : Int, 0 ≤ j ∧ j < 10 ∧ 0 ≤ t ∧ t < 23 ∧ i = 8 + 23 * j + t := ⟨(i - 8) / 23, (i - 8) % 23, by omega, by omega, by omega, by omega, by omega⟩
    rw [ecell_h ⟨hj, hj2⟩ ⟨ht0, ht1⟩]
    have es : hsel hT0 (fun _ => hT0) (fun _ => hT0) j = hT0 := by
      unfold hsel
      split
      · rfl
      · split <;> rfl
    rw [es]
    have hr := eof_rng (i := 8 + 23 * j + t) h0 h1
    have q := h.2.2 (hof j + t) (by rw [← eof_h hj ht0 ht1]; exact hr.1) (by rw [← eof_h hj ht0 ht1]; exact hr.2)
    rw [xcl_hof hj hj2 ht0 ht1] at q
    have ead : ea b (8 + 23 * j + t) = sq b (hof j + t) := by show sq b (eof (8 + 23 * j + t)) = _; rw [eof_h hj ht0 ht1]
    rw [ead]
    exact hcellA (fun t2 a c => ea_h hj a c) ht0 ht1 q
end YX
