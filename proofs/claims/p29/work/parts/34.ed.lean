/-! an EnergyDiscs: 0 the object, 1 the probe, 2 the Pad, 3 its characters, 4 the History, 5 its rows, 6 the slots, 7 which are used, 8 + 23 * j the House j: 0 the one that counts, 1 .. 2 the slots, 3 .. 9 the history's -/
abbrev ehs (a : Int → Nat) (j : Int) : Int → Nat := fun t => a (8 + 23 * j + t)
abbrev epd (a : Int → Nat) : Int → Nat := fun t => a (2 + t)
def hsel (τ : Int → Int) (ss hh : Int → Int → Int) (j : Int) : Int → Int := if j = 0 then τ else if j < 3 then ss (j - 1) else hh (j - 3)
def upH (hs : Int → Int → Int) (k : Int) (τ : Int → Int) : Int → Int → Int := fun j => if j = k then τ else hs j
theorem upH_s (hs : Int → Int → Int) (k : Int) (τ : Int → Int) : upH hs k τ k = τ := if_pos rfl
theorem upH_n {hs : Int → Int → Int} {k j : Int} {τ : Int → Int} (h : j ≠ k) : upH hs k τ j = hs j := if_neg h
def edL (a : Int → Nat) : List Value := [.ref (ehs a 0 0), .ref (a 1), .ref (epd a 0), .ref (a 4), .ref (a 6), .ref (a 7)]
def ecell (cs : Nat → ClassId) (a : Int → Nat) (τ : Int → Int) (ss hh : Int → Int → Int) (pr pd : Int → Int) (ln fr kp : Int) (su : Int → Int) (i : Int) : va_E :=
  if i = 0 then .inr (5, edL a)
  else if i = 1 then .inr (3, mvL pr)
  else if i = 2 then .inr (4, [.ref (epd a 1), .int (zI ln)])
  else if i = 3 then .inl (cs 3, (80, .inl fun k : Nat => zI (pd k)))
  else if i = 4 then .inr (0, [.ref (a 5), .int (zI fr), .int (zI kp)])
  else if i = 5 then .inl (cs 6, (7, .inr (.inr (.inr (.inr fun k : Nat => some (ehs a (3 + k) 0))))))
  else if i = 6 then .inl (cs 6, (2, .inr (.inr (.inr (.inr fun k : Nat => some (ehs a (1 + k) 0))))))
  else if i = 7 then .inl (cs 2, (2, .inl fun k : Nat => zI (su k)))
  else hcell cs (ehs a ((i - 8) / 23)) (hsel τ ss hh ((i - 8) / 23)) ((i - 8) % 23)
def eAt (D : va_G) (cs : Nat → ClassId) (a : Int → Nat) (τ : Int → Int) (ss hh : Int → Int → Int) (pr pd : Int → Int) (ln fr kp : Int) (su : Int → Int) (H : Heap) : Prop := bAt D 238 a (ecell cs a τ ss hh pr pd ln fr kp su) H
abbrev eI (a : Int → Nat) : Prop := bI 238 a
abbrev eC (a : Int → Nat) : Nat → Prop := bC 238 a
section EB
variable {D : va_G} {cs : Nat → ClassId} {a : Int → Nat} {τ : Int → Int} {ss hh : Int → Int → Int} {pr pd : Int → Int} {ln fr kp : Int} {su : Int → Int} {H H1 : Heap}
theorem eAt_0 (h : eAt D cs a τ ss hh pr pd ln fr kp su H) : va_at D vwCl (a 0, .inr (5, edL a)) H := h 0 (by decide) (by decide)
theorem eAt_T (h : eAt D cs a τ ss hh pr pd ln fr kp su H) : tAt D (a 1) pr H := h 1 (by decide) (by decide)
theorem eAt_P (h : eAt D cs a τ ss hh pr pd ln fr kp su H) : pAt D cs (epd a) pd ln H := fun i h0 h1 => by
  rcases (show i = 0 ∨ i = 1 by omega) with q | q <;> subst q
  · exact h 2 (by decide) (by decide)
  · exact h 3 (by decide) (by decide)
theorem eAt_4 (h : eAt D cs a τ ss hh pr pd ln fr kp su H) : va_at D vwCl (a 4, .inr (0, [.ref (a 5), .int (zI fr), .int (zI kp)])) H := h 4 (by decide) (by decide)
theorem eAt_5 (h : eAt D cs a τ ss hh pr pd ln fr kp su H) : H[a 5]? = some (vp_cell (cs 6) (7, .inr (.inr (.inr (.inr fun k : Nat => some (ehs a (3 + k) 0)))))) := h 5 (by decide) (by decide)
theorem eAt_6 (h : eAt D cs a τ ss hh pr pd ln fr kp su H) : H[a 6]? = some (vp_cell (cs 6) (2, .inr (.inr (.inr (.inr fun k : Nat => some (ehs a (1 + k) 0)))))) := h 6 (by decide) (by decide)
theorem eAt_7 (h : eAt D cs a τ ss hh pr pd ln fr kp su H) : H[a 7]? = some (vp_cell (cs 2) (2, .inl fun k : Nat => zI (su k))) := h 7 (by decide) (by decide)
theorem ecell_h {j t : Int} (hj : 0 ≤ j ∧ j < 10) (ht : 0 ≤ t ∧ t < 23) : ecell cs a τ ss hh pr pd ln fr kp su (8 + 23 * j + t) = hcell cs (ehs a j) (hsel τ ss hh j) t := by
  unfold ecell
  rw [if_neg (by omega), if_neg (by omega), if_neg (by omega), if_neg (by omega), if_neg (by omega), if_neg (by omega), if_neg (by omega), if_neg (by omega), show (8 + 23 * j + t - 8) / 23 = j by omega, show (8 + 23 * j + t - 8) % 23 = t by omega]
theorem eAt_h (h : eAt D cs a τ ss hh pr pd ln fr kp su H) {j : Int} (hj : 0 ≤ j ∧ j < 10) : hAt D cs (ehs a j) (hsel τ ss hh j) H := fun t h0 h1 => by
  have := h (8 + 23 * j + t) (by omega) (by omega)
  rw [ecell_h hj ⟨h0, h1⟩] at this
  exact this
theorem hsel_0 : hsel τ ss hh 0 = τ := rfl
theorem hsel_S {k : Int} (hk : 0 ≤ k ∧ k < 2) : hsel τ ss hh (1 + k) = ss k := by
  unfold hsel
  rw [if_neg (by omega), if_pos (by omega), show 1 + k - 1 = k by omega]
theorem hsel_I {k : Int} (hk : 0 ≤ k ∧ k < 7) : hsel τ ss hh (3 + k) = hh k := by
  unfold hsel
  rw [if_neg (by omega), if_neg (by omega), show 3 + k - 3 = k by omega]
theorem eAt_H (h : eAt D cs a τ ss hh pr pd ln fr kp su H) : hAt D cs (ehs a 0) τ H := eAt_h h (j := 0) (by decide)
theorem eAt_S (h : eAt D cs a τ ss hh pr pd ln fr kp su H) {k : Int} (hk : 0 ≤ k ∧ k < 2) : hAt D cs (ehs a (1 + k)) (ss k) H := by
  have := eAt_h h (j := 1 + k) (by omega)
  rwa [hsel_S hk] at this
theorem eAt_I (h : eAt D cs a τ ss hh pr pd ln fr kp su H) {k : Int} (hk : 0 ≤ k ∧ k < 7) : hAt D cs (ehs a (3 + k)) (hh k) H := by
  have := eAt_h h (j := 3 + k) (by omega)
  rwa [hsel_I hk] at this
theorem eAt_cong {τ2 : Int → Int} {ss2 hh2 : Int → Int → Int} {pr2 pd2 : Int → Int} {ln2 fr2 kp2 : Int} {su2 : Int → Int} (h : eAt D cs a τ ss hh pr pd ln fr kp su H) (h1 : τ = τ2) (h2 : ss = ss2) (h3 : hh = hh2) (h4 : pr = pr2) (h5 : pd = pd2) (h6 : ln = ln2) (h7 : fr = fr2) (h8 : kp = kp2) (h9 : su = su2) : eAt D cs a τ2 ss2 hh2 pr2 pd2 ln2 fr2 kp2 su2 H := by
  subst h1; subst h2; subst h3; subst h4; subst h5; subst h6; subst h7; subst h8; subst h9
  exact h
theorem eAt_F {A : Nat → Prop} (h : eAt D cs a τ ss hh pr pd ln fr kp su H) (hF : kF A H H1) (hA : ∀ i : Int, 0 ≤ i → i < 238 → ¬ A (a i)) : eAt D cs a τ ss hh pr pd ln fr kp su H1 := bAt_F h hF hA
/-! the addresses -/
theorem eI_H (hI : eI a) {j : Int} (hj : 0 ≤ j ∧ j < 10) : hI23 (ehs a j) := fun i k h0 h1 h2 h3 q => by
  have := hI (8 + 23 * j + i) (8 + 23 * j + k) (by omega) (by omega) (by omega) (by omega) q
  omega
theorem eI_P (hI : eI a) : pI2 (epd a) := fun i k h0 h1 h2 h3 q => by
  have := hI (2 + i) (2 + k) (by omega) (by omega) (by omega) (by omega) q
  omega
theorem eI_dis (hI : eI a) {j k : Int} (hj : 0 ≤ j ∧ j < 10) (hk : 0 ≤ k ∧ k < 10) (hne : j ≠ k) : ∀ i i2 : Int, 0 ≤ i → i < 23 → 0 ≤ i2 → i2 < 23 → ehs a j i ≠ ehs a k i2 := fun i i2 h0 h1 h2 h3 q => by
  have := hI (8 + 23 * j + i) (8 + 23 * k + i2) (by omega) (by omega) (by omega) (by omega) q
  omega
theorem eI_1 (hI : eI a) {j t : Int} (hj : 0 ≤ j ∧ j < 10) (ht : 0 ≤ t ∧ t < 23) : ehs a j t ≠ a 1 := fun q => by
  have := hI (8 + 23 * j + t) 1 (by omega) (by omega) (by decide) (by decide) q
  omega
theorem eC_H {j : Int} (hj : 0 ≤ j ∧ j < 10) : ∀ q, hC23 (ehs a j) q → eC a q := fun q ⟨i, h0, h1, h2⟩ => ⟨8 + 23 * j + i, by omega, by omega, h2⟩
theorem eC_T : ∀ q, oneC (a 1) q → eC a q := fun q h => ⟨1, by decide, by decide, h⟩
theorem eC_P : ∀ q, pC2 (epd a) q → eC a q := fun q ⟨i, h0, h1, h2⟩ => ⟨2 + i, by omega, by omega, h2⟩
/-! behind a change of one part -/
theorem eAt_setT {f : Int → Int} (h : eAt D cs a τ ss hh pr pd ln fr kp su H) (hI : eI a) (hT : tAt D (a 1) f H1) (hF : kF (oneC (a 1)) H H1) : eAt D cs a τ ss hh f pd ln fr kp su H1 := bAt_setF h hF (fun i h0 h1 => by
  by_cases q : i = 1
  · subst q; left; exact hT
  · right
    refine ⟨by unfold ecell; simp only [q, if_false], fun w => q (hI i 1 h0 h1 (by decide) (by decide) w)⟩)
theorem eAt_setP {pd2 : Int → Int} {ln2 : Int} (h : eAt D cs a τ ss hh pr pd ln fr kp su H) (hI : eI a) (hP : pAt D cs (epd a) pd2 ln2 H1) (hF : kF (pC2 (epd a)) H H1) : eAt D cs a τ ss hh pr pd2 ln2 fr kp su H1 := bAt_setF h hF (fun i h0 h1 => by
  by_cases q : i = 2
  · subst q; left; exact hP 0 (by decide) (by decide)
  · by_cases q3 : i = 3
    · subst q3; left; exact hP 1 (by decide) (by decide)
    · right
      refine ⟨by unfold ecell; simp only [q, q3, if_false], fun ⟨k, a0, a1, w⟩ => ?_⟩
      have := hI i (2 + k) h0 h1 (by omega) (by omega) w
      omega)
theorem eAt_seth {τ2 τ3 : Int → Int} {ss2 hh2 : Int → Int → Int} (h : eAt D cs a τ ss hh pr pd ln fr kp su H) (hI : eI a) {j : Int} (hj : 0 ≤ j ∧ j < 10) (hH : hAt D cs (ehs a j) τ3 H1) (hF : kF (hC23 (ehs a j)) H H1) (h3 : hsel τ2 ss2 hh2 j = τ3) (he : ∀ k : Int, 0 ≤ k → k < 10 → k ≠ j → hsel τ2 ss2 hh2 k = hsel τ ss hh k) : eAt D cs a τ2 ss2 hh2 pr pd ln fr kp su H1 := bAt_setF h hF (fun i h0 h1 => by
  by_cases q : 8 ≤ i
  · obtain ⟨k, t, hk, ht, rfl⟩ : ∃ k t : Int, (0 ≤ k ∧ k < 10) ∧ (0 ≤ t ∧ t < 23) ∧ i = 8 + 23 * k + t := ⟨(i - 8) / 23, (i - 8) % 23, by omega, by omega, by omega⟩
    rw [ecell_h hk ht, ecell_h hk ht]
    by_cases w : k = j
    · subst w
      left
      rw [h3]
      exact hH t ht.1 ht.2
    · right
      refine ⟨by rw [he k hk.1 hk.2 w], fun ⟨x, a0, a1, z⟩ => ?_⟩
      have := hI (8 + 23 * k + t) (8 + 23 * j + x) (by omega) (by omega) (by omega) (by omega) z
      omega
  · right
    refine ⟨?_, fun ⟨x, a0, a1, z⟩ => ?_⟩
    · rcases (show i = 0 ∨ i = 1 ∨ i = 2 ∨ i = 3 ∨ i = 4 ∨ i = 5 ∨ i = 6 ∨ i = 7 by omega) with w | w | w | w | w | w | w | w <;> subst w <;> rfl
    · have := hI i (8 + 23 * j + x) h0 h1 (by omega) (by omega) z
      omega)
theorem eAt_setH {τ2 : Int → Int} (h : eAt D cs a τ ss hh pr pd ln fr kp su H) (hI : eI a) (hH : hAt D cs (ehs a 0) τ2 H1) (hF : kF (hC23 (ehs a 0)) H H1) : eAt D cs a τ2 ss hh pr pd ln fr kp su H1 := eAt_seth h hI (j := 0) (by decide) hH hF rfl (fun k h0 h1 hk => by unfold hsel; rw [if_neg hk, if_neg hk])
theorem eAt_setS {τ2 : Int → Int} {k : Int} (h : eAt D cs a τ ss hh pr pd ln fr kp su H) (hI : eI a) (hk : 0 ≤ k ∧ k < 2) (hH : hAt D cs (ehs a (1 + k)) τ2 H1) (hF : kF (hC23 (ehs a (1 + k))) H H1) : eAt D cs a τ (upH ss k τ2) hh pr pd ln fr kp su H1 := eAt_seth h hI (j := 1 + k) (by omega) hH hF (by rw [hsel_S hk, upH_s]) (fun x h0 h1 hx => by
  unfold hsel
  by_cases q : x = 0
  · rw [if_pos q, if_pos q]
  · rw [if_neg q, if_neg q]
    by_cases w : x < 3
    · rw [if_pos w, if_pos w, upH_n (by omega)]
    · rw [if_neg w, if_neg w])
theorem eAt_setI {τ2 : Int → Int} {k : Int} (h : eAt D cs a τ ss hh pr pd ln fr kp su H) (hI : eI a) (hk : 0 ≤ k ∧ k < 7) (hH : hAt D cs (ehs a (3 + k)) τ2 H1) (hF : kF (hC23 (ehs a (3 + k))) H H1) : eAt D cs a τ ss (upH hh k τ2) pr pd ln fr kp su H1 := eAt_seth h hI (j := 3 + k) (by omega) hH hF (by rw [hsel_I hk, upH_s]) (fun x h0 h1 hx => by
  unfold hsel
  by_cases q : x = 0
  · rw [if_pos q, if_pos q]
  · rw [if_neg q, if_neg q]
    by_cases w : x < 3
    · rw [if_pos w, if_pos w]
    · rw [if_neg w, if_neg w, upH_n (by omega)])
end EB
section ER
variable {p : Program} {l : Launch} {e : Env} {R : Room} {s : State} {m : MethodId} {args : Array Value} {below : List Frame} {meth : Method} {c : Code} {H : Heap} {locs : List Loc} {cells slots : Nat} {Q : State → Prop} {cc : ByteArray} {pc : Nat} {ls : Array Slot} {rest : List Value} {D : va_G} {cs : Nat → ClassId}
variable {a : Int → Nat} {τ : Int → Int} {ss hh : Int → Int → Int} {pr pd : Int → Int} {ln fr kp : Int} {su : Int → Int} {Ts : List Cond} {own : String} {nL index : Nat} {H0 : Heap} {A : Nat → Prop}
theorem e_g_house (S : CallFix p m c cc nL s args Ts own) (hin : ∀ w ∈ wsX60, w ∈ Ts) (hK : kK D cs s) (hE : eAt D cs a τ ss hh pr pd ln fr kp su H) (hlink : (Cond.fieldLink own index "EnergyDiscs" "house" "LEnergyDiscs$House;").before args s = true) (d : decode cc pc = .ok (.getfield index, 3)) (kk : W p l e R s m args below meth c H locs cells slots Q (F0 m (pc + 3) ls (.ref (ehs a 0 0) :: rest))) : W p l e R s m args below meth c H locs cells slots Q (F0 m pc ls (.ref (a 0) :: rest)) := x_get (C := RX6) (T := TX6) (N := 6) S.1 S.2.1 S.2.2.2.2 hin S.2.2.2.1 hK (eAt_0 hE) rfl 0 (by decide) hlink rfl d kk
theorem e_g_probe (S : CallFix p m c cc nL s args Ts own) (hin : ∀ w ∈ wsX60, w ∈ Ts) (hK : kK D cs s) (hE : eAt D cs a τ ss hh pr pd ln fr kp su H) (hlink : (Cond.fieldLink own index "EnergyDiscs" "probe" "LEnergyDiscs$Meter;").before args s = true) (d : decode cc pc = .ok (.getfield index, 3)) (kk : W p l e R s m args below meth c H locs cells slots Q (F0 m (pc + 3) ls (.ref (a 1) :: rest))) : W p l e R s m args below meth c H locs cells slots Q (F0 m pc ls (.ref (a 0) :: rest)) := x_get (C := RX6) (T := TX6) (N := 6) S.1 S.2.1 S.2.2.2.2 hin S.2.2.2.1 hK (eAt_0 hE) rfl 1 (by decide) hlink rfl d kk
theorem e_g_pad (S : CallFix p m c cc nL s args Ts own) (hin : ∀ w ∈ wsX60, w ∈ Ts) (hK : kK D cs s) (hE : eAt D cs a τ ss hh pr pd ln fr kp su H) (hlink : (Cond.fieldLink own index "EnergyDiscs" "pad" "LEnergyDiscs$Pad;").before args s = true) (d : decode cc pc = .ok (.getfield index, 3)) (kk : W p l e R s m args below meth c H locs cells slots Q (F0 m (pc + 3) ls (.ref (epd a 0) :: rest))) : W p l e R s m args below meth c H locs cells slots Q (F0 m pc ls (.ref (a 0) :: rest)) := x_get (C := RX6) (T := TX6) (N := 6) S.1 S.2.1 S.2.2.2.2 hin S.2.2.2.1 hK (eAt_0 hE) rfl 2 (by decide) hlink rfl d kk
theorem e_g_history (S : CallFix p m c cc nL s args Ts own) (hin : ∀ w ∈ wsX60, w ∈ Ts) (hK : kK D cs s) (hE : eAt D cs a τ ss hh pr pd ln fr kp su H) (hlink : (Cond.fieldLink own index "EnergyDiscs" "history" "LEnergyDiscs$History;").before args s = true) (d : decode cc pc = .ok (.getfield index, 3)) (kk : W p l e R s m args below meth c H locs cells slots Q (F0 m (pc + 3) ls (.ref (a 4) :: rest))) : W p l e R s m args below meth c H locs cells slots Q (F0 m pc ls (.ref (a 0) :: rest)) := x_get (C := RX6) (T := TX6) (N := 6) S.1 S.2.1 S.2.2.2.2 hin S.2.2.2.1 hK (eAt_0 hE) rfl 3 (by decide) hlink rfl d kk
theorem e_g_slots (S : CallFix p m c cc nL s args Ts own) (hin : ∀ w ∈ wsX60, w ∈ Ts) (hK : kK D cs s) (hE : eAt D cs a τ ss hh pr pd ln fr kp su H) (hlink : (Cond.fieldLink own index "EnergyDiscs" "slots" "[LEnergyDiscs$House;").before args s = true) (d : decode cc pc = .ok (.getfield index, 3)) (kk : W p l e R s m args below meth c H locs cells slots Q (F0 m (pc + 3) ls (.ref (a 6) :: rest))) : W p l e R s m args below meth c H locs cells slots Q (F0 m pc ls (.ref (a 0) :: rest)) := x_get (C := RX6) (T := TX6) (N := 6) S.1 S.2.1 S.2.2.2.2 hin S.2.2.2.1 hK (eAt_0 hE) rfl 4 (by decide) hlink rfl d kk
theorem e_g_slotsUsed (S : CallFix p m c cc nL s args Ts own) (hin : ∀ w ∈ wsX60, w ∈ Ts) (hK : kK D cs s) (hE : eAt D cs a τ ss hh pr pd ln fr kp su H) (hlink : (Cond.fieldLink own index "EnergyDiscs" "slotsUsed" "[Z").before args s = true) (d : decode cc pc = .ok (.getfield index, 3)) (kk : W p l e R s m args below meth c H locs cells slots Q (F0 m (pc + 3) ls (.ref (a 7) :: rest))) : W p l e R s m args below meth c H locs cells slots Q (F0 m pc ls (.ref (a 0) :: rest)) := x_get (C := RX6) (T := TX6) (N := 6) S.1 S.2.1 S.2.2.2.2 hin S.2.2.2.1 hK (eAt_0 hE) rfl 5 (by decide) hlink rfl d kk
theorem e_g_states (S : CallFix p m c cc nL s args Ts own) (hin : ∀ w ∈ wsX10, w ∈ Ts) (hK : kK D cs s) (hE : eAt D cs a τ ss hh pr pd ln fr kp su H) (hlink : (Cond.fieldLink own index "EnergyDiscs$History" "states" "[LEnergyDiscs$House;").before args s = true) (d : decode cc pc = .ok (.getfield index, 3)) (kk : W p l e R s m args below meth c H locs cells slots Q (F0 m (pc + 3) ls (.ref (a 5) :: rest))) : W p l e R s m args below meth c H locs cells slots Q (F0 m pc ls (.ref (a 4) :: rest)) := x_get (C := RX1) (T := TX1) (N := 3) S.1 S.2.1 S.2.2.2.2 hin S.2.2.2.1 hK (eAt_4 hE) rfl 0 (by decide) hlink rfl d kk
theorem e_g_free (S : CallFix p m c cc nL s args Ts own) (hin : ∀ w ∈ wsX10, w ∈ Ts) (hK : kK D cs s) (hE : eAt D cs a τ ss hh pr pd ln fr kp su H) (hlink : (Cond.fieldLink own index "EnergyDiscs$History" "free" "I").before args s = true) (d : decode cc pc = .ok (.getfield index, 3)) (kk : W p l e R s m args below meth c H locs cells slots Q (F0 m (pc + 3) ls (.int (zI fr) :: rest))) : W p l e R s m args below meth c H locs cells slots Q (F0 m pc ls (.ref (a 4) :: rest)) := x_get (C := RX1) (T := TX1) (N := 3) S.1 S.2.1 S.2.2.2.2 hin S.2.2.2.1 hK (eAt_4 hE) rfl 1 (by decide) hlink rfl d kk
theorem e_p_free (S : CallFix p m c cc nL s args Ts own) (hin : ∀ w ∈ wsX10, w ∈ Ts) (hK : kK D cs s) (hE : eAt D cs a τ ss hh pr pd ln fr kp su H) (hI : eI a) (hS : va_S A H0 H locs) (hA : A (a 4)) (hlink : (Cond.fieldLink own index "EnergyDiscs$History" "free" "I").before args s = true) {v : Int} (d : decode cc pc = .ok (.putfield index, 3)) (kk : ∀ (H1 : Heap) (locs1 : List Loc), eAt D cs a τ ss hh pr pd ln v kp su H1 → kF (oneC (a 4)) H H1 → va_S A H0 H1 locs1 → W p l e R s m args below meth c H1 locs1 cells slots Q (F0 m (pc + 3) ls rest)) : W p l e R s m args below meth c H locs cells slots Q (F0 m pc ls (.int (zI v) :: .ref (a 4) :: rest)) :=
  x_put (C := RX1) (T := TX1) (N := 3) S.1 S.2.1 S.2.2.2.2 hin tyX1 tyX1_ok nmX1 S.2.2.2.1 hK (eAt_4 hE) rfl 1 (by decide) hlink rfl rfl rfl (by show 1 < 3; decide) d (fun H1 j e z oq => kk H1 _ (bAt_set (j := 4) hE hI (by decide) (by decide) e (fun i hi => by unfold ecell; simp only [hi, if_false]) oq) (kF_put z oq) (hS.put z oq hA))
theorem e_g_kept (S : CallFix p m c cc nL s args Ts own) (hin : ∀ w ∈ wsX10, w ∈ Ts) (hK : kK D cs s) (hE : eAt D cs a τ ss hh pr pd ln fr kp su H) (hlink : (Cond.fieldLink own index "EnergyDiscs$History" "kept" "I").before args s = true) (d : decode cc pc = .ok (.getfield index, 3)) (kk : W p l e R s m args below meth c H locs cells slots Q (F0 m (pc + 3) ls (.int (zI kp) :: rest))) : W p l e R s m args below meth c H locs cells slots Q (F0 m pc ls (.ref (a 4) :: rest)) := x_get (C := RX1) (T := TX1) (N := 3) S.1 S.2.1 S.2.2.2.2 hin S.2.2.2.1 hK (eAt_4 hE) rfl 2 (by decide) hlink rfl d kk
theorem e_p_kept (S : CallFix p m c cc nL s args Ts own) (hin : ∀ w ∈ wsX10, w ∈ Ts) (hK : kK D cs s) (hE : eAt D cs a τ ss hh pr pd ln fr kp su H) (hI : eI a) (hS : va_S A H0 H locs) (hA : A (a 4)) (hlink : (Cond.fieldLink own index "EnergyDiscs$History" "kept" "I").before args s = true) {v : Int} (d : decode cc pc = .ok (.putfield index, 3)) (kk : ∀ (H1 : Heap) (locs1 : List Loc), eAt D cs a τ ss hh pr pd ln fr v su H1 → kF (oneC (a 4)) H H1 → va_S A H0 H1 locs1 → W p l e R s m args below meth c H1 locs1 cells slots Q (F0 m (pc + 3) ls rest)) : W p l e R s m args below meth c H locs cells slots Q (F0 m pc ls (.int (zI v) :: .ref (a 4) :: rest)) :=
  x_put (C := RX1) (T := TX1) (N := 3) S.1 S.2.1 S.2.2.2.2 hin tyX1 tyX1_ok nmX1 S.2.2.2.1 hK (eAt_4 hE) rfl 2 (by decide) hlink rfl rfl rfl (by show 2 < 3; decide) d (fun H1 j e z oq => kk H1 _ (bAt_set (j := 4) hE hI (by decide) (by decide) e (fun i hi => by unfold ecell; simp only [hi, if_false]) oq) (kF_put z oq) (hS.put z oq hA))
theorem e_l_states (S : CallFix p m c cc nL s args Ts own) (hK : kK D cs s) (hE : eAt D cs a τ ss hh pr pd ln fr kp su H) {i : Int} (hi : 0 ≤ i ∧ i < 7) (d : decode cc pc = .ok (.aaload, 1)) (kk : W p l e R s m args below meth c H locs cells slots Q (F0 m (pc + 1) ls (.ref (ehs a (3 + i) 0) :: rest))) : W p l e R s m args below meth c H locs cells slots Q (F0 m pc ls (.int (zI i) :: .ref (a 5) :: rest)) := x_aald6 S.1 S.2.1 hK (eAt_5 hE) hi (by decide) d (by rw [show ((i.toNat : Nat) : Int) = i by omega]; exact kk)
theorem e_l_slots (S : CallFix p m c cc nL s args Ts own) (hK : kK D cs s) (hE : eAt D cs a τ ss hh pr pd ln fr kp su H) {i : Int} (hi : 0 ≤ i ∧ i < 2) (d : decode cc pc = .ok (.aaload, 1)) (kk : W p l e R s m args below meth c H locs cells slots Q (F0 m (pc + 1) ls (.ref (ehs a (1 + i) 0) :: rest))) : W p l e R s m args below meth c H locs cells slots Q (F0 m pc ls (.int (zI i) :: .ref (a 6) :: rest)) := x_aald6 S.1 S.2.1 hK (eAt_6 hE) hi (by decide) d (by rw [show ((i.toNat : Nat) : Int) = i by omega]; exact kk)
theorem e_l_used (S : CallFix p m c cc nL s args Ts own) (hK : kK D cs s) (hE : eAt D cs a τ ss hh pr pd ln fr kp su H) {i : Int} (hi : 0 ≤ i ∧ i < 2) (d : decode cc pc = .ok (.baload, 1)) (kk : W p l e R s m args below meth c H locs cells slots Q (F0 m (pc + 1) ls (.int (zI (su i)) :: rest))) : W p l e R s m args below meth c H locs cells slots Q (F0 m pc ls (.int (zI i) :: .ref (a 7) :: rest)) := x_zald S.1 S.2.1 hK (eAt_7 hE) hi (by decide) d (by rw [show ((i.toNat : Nat) : Int) = i by omega]; exact kk)
theorem e_s_used (S : CallFix p m c cc nL s args Ts own) (hK : kK D cs s) (hE : eAt D cs a τ ss hh pr pd ln fr kp su H) (hI : eI a) (hS : va_S A H0 H locs) (hA : A (a 7)) {i v : Int} (h01 : narrow .boolean (.int (zI v)) = .int (zI v)) (hi : 0 ≤ i ∧ i < 2) (d : decode cc pc = .ok (.bastore, 1)) (kk : ∀ (H1 : Heap) (locs1 : List Loc), eAt D cs a τ ss hh pr pd ln fr kp (up su i v) H1 → kF (oneC (a 7)) H H1 → va_S A H0 H1 locs1 → W p l e R s m args below meth c H1 locs1 cells slots Q (F0 m (pc + 1) ls rest)) : W p l e R s m args below meth c H locs cells slots Q (F0 m pc ls (.int (zI v) :: .int (zI i) :: .ref (a 7) :: rest)) :=
  x_zast S.1 S.2.1 hK (eAt_7 hE) h01 hi (by decide) d (fun H1 j e z oq => kk H1 _ (bAt_set (j := 7) hE hI (by decide) (by decide) (by rw [updI_u _ _ _ hi.1] at e; exact e) (fun i hi => by unfold ecell; simp only [hi, if_false]) oq) (kF_put z oq) (hS.put z oq hA))
end ER
