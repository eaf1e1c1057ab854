/-! a House: 0 the object, 1 settings, 2 meters, 3 loads, 4 .. 10 its Meters, 11 .. 22 its Loads; τ holds its numbers in the reference's order -/
def sset (τ : Int → Int) : Int → Int := fun i => if i < 6 then τ i else 0
def mrec (τ : Int → Int) (e : Int) : Int → Int := fun j => τ (11 + 13 * e + j)
def lrec (τ : Int → Int) (e : Int) : Int → Int := fun j => τ (102 + 3 * e + j)
def hoL (a : Int → Nat) (τ : Int → Int) : List Value := [.ref (a 1), .ref (a 2), .ref (a 3), .int (zI (τ 6)), .int (zI (τ 7)), .int (zI (τ 8)), .int (zI (τ 10))]
def hcell (cs : Nat → ClassId) (a : Int → Nat) (τ : Int → Int) (i : Int) : va_E :=
  if i = 0 then .inr (1, hoL a τ)
  else if i = 1 then .inl (cs 0, (6, .inl fun k : Nat => zI (sset τ k)))
  else if i = 2 then .inl (cs 4, (7, .inr (.inr (.inr (.inr fun k : Nat => some (a (4 + k)))))))
  else if i = 3 then .inl (cs 5, (12, .inr (.inr (.inr (.inr fun k : Nat => some (a (11 + k)))))))
  else if i < 11 then .inr (3, mvL (mrec τ (i - 4)))
  else .inr (2, ldL (lrec τ (i - 11)))
def hAt (D : va_G) (cs : Nat → ClassId) (a : Int → Nat) (τ : Int → Int) (H : Heap) : Prop := bAt D 23 a (hcell cs a τ) H
/-- its object and its settings alone -/
def hsAt (D : va_G) (cs : Nat → ClassId) (a : Int → Nat) (τ : Int → Int) (H : Heap) : Prop := bAt D 2 a (hcell cs a τ) H
abbrev hI23 (a : Int → Nat) : Prop := bI 23 a
abbrev hC23 (a : Int → Nat) : Nat → Prop := bC 23 a
theorem bAt_setF {D : va_G} {n : Int} {a : Int → Nat} {A : Nat → Prop} {cell cell' : Int → va_E} {H H1 : Heap} (hM : bAt D n a cell H) (hF : kF A H H1) (h : ∀ i : Int, 0 ≤ i → i < n → va_at D vwCl (a i, cell' i) H1 ∨ (cell' i = cell i ∧ ¬ A (a i))) : bAt D n a cell' H1 := by
  intro i h0 h1
  rcases h i h0 h1 with q | ⟨q1, q2⟩
  · exact q
  · rw [q1]
    exact va_at_F (hM i h0 h1) hF q2
section HB
variable {D : va_G} {cs : Nat → ClassId} {a : Int → Nat} {τ : Int → Int} {H H1 : Heap}
theorem hAt_hs (h : hAt D cs a τ H) : hsAt D cs a τ H := fun i h0 h1 => h i h0 (by omega)
theorem hsAt_0 (h : hsAt D cs a τ H) : va_at D vwCl (a 0, .inr (1, hoL a τ)) H := h 0 (by decide) (by decide)
theorem hsAt_1 (h : hsAt D cs a τ H) : gAt cs (a 1) (sset τ) H := h 1 (by decide) (by decide)
theorem hAt_2 (h : hAt D cs a τ H) : H[a 2]? = some (vp_cell (cs 4) (7, .inr (.inr (.inr (.inr fun k : Nat => some (a (4 + k))))))) := h 2 (by decide) (by decide)
theorem hAt_3 (h : hAt D cs a τ H) : H[a 3]? = some (vp_cell (cs 5) (12, .inr (.inr (.inr (.inr fun k : Nat => some (a (11 + k))))))) := h 3 (by decide) (by decide)
theorem hcell_m {e : Int} (he : 0 ≤ e ∧ e < 7) : hcell cs a τ (4 + e) = .inr (3, mvL (mrec τ e)) := by
  unfold hcell
  rw [if_neg (by omega), if_neg (by omega), if_neg (by omega), if_neg (by omega), if_pos (by omega), show 4 + e - 4 = e by omega]
theorem hcell_l {e : Int} (he : 0 ≤ e ∧ e < 12) : hcell cs a τ (11 + e) = .inr (2, ldL (lrec τ e)) := by
  unfold hcell
  rw [if_neg (by omega), if_neg (by omega), if_neg (by omega), if_neg (by omega), if_neg (by omega), show 11 + e - 11 = e by omega]
theorem hAt_m (h : hAt D cs a τ H) {e : Int} (he : 0 ≤ e ∧ e < 7) : tAt D (a (4 + e)) (mrec τ e) H := by
  have := h (4 + e) (by omega) (by omega)
  rw [hcell_m he] at this
  exact this
theorem hAt_l (h : hAt D cs a τ H) {e : Int} (he : 0 ≤ e ∧ e < 12) : lAt D (a (11 + e)) (lrec τ e) H := by
  have := h (11 + e) (by omega) (by omega)
  rw [hcell_l he] at this
  exact this
/-- two states of a House's numbers that its cells don't tell apart -/
def hEq (τ τ2 : Int → Int) : Prop := (∀ i : Int, 0 ≤ i → i < 9 → τ2 i = τ i) ∧ (∀ i : Int, 10 ≤ i → i < 138 → τ2 i = τ i)
theorem hEq_rfl (τ : Int → Int) : hEq τ τ := ⟨fun _ _ _ => rfl, fun _ _ _ => rfl⟩
theorem mvL_eq {f f2 : Int → Int} (h : ∀ i : Int, 0 ≤ i → i < 13 → f2 i = f i) : mvL f = mvL f2 := by
  unfold mvL
  rw [h 0 (by decide) (by decide), h 1 (by decide) (by decide), h 2 (by decide) (by decide), h 3 (by decide) (by decide), h 4 (by decide) (by decide), h 5 (by decide) (by decide), h 6 (by decide) (by decide), h 7 (by decide) (by decide), h 8 (by decide) (by decide), h 9 (by decide) (by decide), h 10 (by decide) (by decide), h 11 (by decide) (by decide), h 12 (by decide) (by decide)]
theorem ldL_eq {f f2 : Int → Int} (h : ∀ i : Int, 0 ≤ i → i < 3 → f2 i = f i) : ldL f = ldL f2 := by
  unfold ldL
  rw [h 0 (by decide) (by decide), h 1 (by decide) (by decide), h 2 (by decide) (by decide)]
theorem hcell_eq {τ2 : Int → Int} (h : hEq τ τ2) (i : Int) (h0 : 0 ≤ i) (h1 : i < 23) : hcell cs a τ i = hcell cs a τ2 i := by
  obtain ⟨hA, hB⟩ := h
  by_cases e0 : i = 0
  · subst e0
    show (Sum.inr (1, hoL a τ) : va_E) = Sum.inr (1, hoL a τ2)
    unfold hoL
    rw [hA 6 (by decide) (by decide), hA 7 (by decide) (by decide), hA 8 (by decide) (by decide), hB 10 (by decide) (by decide)]
  · by_cases e1 : i = 1
    · subst e1
      show (Sum.inl (cs 0, (6, .inl fun k : Nat => zI (sset τ k))) : va_E) = Sum.inl (cs 0, (6, .inl fun k : Nat => zI (sset τ2 k)))
      have : (fun k : Nat => zI (sset τ k)) = fun k : Nat => zI (sset τ2 k) := by
        funext k
        unfold sset
        by_cases hk : (k : Int) < 6
        · rw [if_pos hk, if_pos hk, hA k (by omega) (by omega)]
        · rw [if_neg hk, if_neg hk]
      rw [this]
    · by_cases e2 : i = 2
      · subst e2; rfl
      · by_cases e3 : i = 3
        · subst e3; rfl
        · by_cases e4 : i < 11
          · obtain ⟨e, rfl⟩ : ∃ e, i = 4 + e := ⟨i - 4, by omega⟩
            rw [hcell_m (by omega), hcell_m (by omega), mvL_eq (f := mrec τ e) (f2 := mrec τ2 e) (fun j a b => hB _ (by omega) (by omega))]
          · obtain ⟨e, rfl⟩ : ∃ e, i = 11 + e := ⟨i - 11, by omega⟩
            rw [hcell_l (by omega), hcell_l (by omega), ldL_eq (f := lrec τ e) (f2 := lrec τ2 e) (fun j a b => hB _ (by omega) (by omega))]
theorem hAt_eq {τ2 : Int → Int} (h : hAt D cs a τ H) (e : hEq τ τ2) : hAt D cs a τ2 H := fun i h0 h1 => by
  rw [← hcell_eq e i h0 h1]
  exact h i h0 h1
theorem hAt_cong {τ2 : Int → Int} (h : hAt D cs a τ H) (e : hEq τ τ2) : hAt D cs a τ2 H := hAt_eq h e
theorem hAt_F {A : Nat → Prop} (h : hAt D cs a τ H) (hF : kF A H H1) (hA : ∀ i : Int, 0 ≤ i → i < 23 → ¬ A (a i)) : hAt D cs a τ H1 := bAt_F h hF hA
theorem hsAt_F {A : Nat → Prop} (h : hsAt D cs a τ H) (hF : kF A H H1) (hA : ¬ A (a 0) ∧ ¬ A (a 1)) : hsAt D cs a τ H1 := bAt_F h hF (fun i h0 h1 => by
  rcases (show i = 0 ∨ i = 1 by omega) with q | q <;> subst q
  · exact hA.1
  · exact hA.2)
/-- one Meter's record, one Load's, in the House's numbers -/
def inM (τ : Int → Int) (e : Int) (f : Int → Int) : Int → Int := fun i => if 11 + 13 * e ≤ i ∧ i < 11 + 13 * e + 13 then f (i - (11 + 13 * e)) else τ i
def inL (τ : Int → Int) (e : Int) (f : Int → Int) : Int → Int := fun i => if 102 + 3 * e ≤ i ∧ i < 102 + 3 * e + 3 then f (i - (102 + 3 * e)) else τ i
theorem inM_out {e : Int} {f : Int → Int} {i : Int} (h : i < 11 + 13 * e ∨ 11 + 13 * e + 13 ≤ i) : inM τ e f i = τ i := if_neg (by omega)
theorem inM_in {e : Int} {f : Int → Int} {j : Int} (h : 0 ≤ j ∧ j < 13) : inM τ e f (11 + 13 * e + j) = f j := by
  unfold inM
  rw [if_pos (by omega), show 11 + 13 * e + j - (11 + 13 * e) = j by omega]
theorem inL_out {e : Int} {f : Int → Int} {i : Int} (h : i < 102 + 3 * e ∨ 102 + 3 * e + 3 ≤ i) : inL τ e f i = τ i := if_neg (by omega)
theorem inL_in {e : Int} {f : Int → Int} {j : Int} (h : 0 ≤ j ∧ j < 3) : inL τ e f (102 + 3 * e + j) = f j := by
  unfold inL
  rw [if_pos (by omega), show 102 + 3 * e + j - (102 + 3 * e) = j by omega]
theorem hoL_in {τ2 : Int → Int} (h6 : τ2 6 = τ 6) (h7 : τ2 7 = τ 7) (h8 : τ2 8 = τ 8) (hA : τ2 10 = τ 10) : hoL a τ2 = hoL a τ := by unfold hoL; rw [h6, h7, h8, hA]
theorem sset_in {τ2 : Int → Int} (h : ∀ i : Int, i < 6 → τ2 i = τ i) : sset τ2 = sset τ := by
  funext i
  unfold sset
  by_cases hi : i < 6
  · rw [if_pos hi, if_pos hi, h i hi]
  · rw [if_neg hi, if_neg hi]
theorem hcell_inM {e : Int} {f : Int → Int} (he : 0 ≤ e ∧ e < 7) {i : Int} (h0 : 0 ≤ i) (h1 : i < 23) (hi : i ≠ 4 + e) : hcell cs a (inM τ e f) i = hcell cs a τ i := by
  unfold hcell
  rw [hoL_in (inM_out (by omega)) (inM_out (by omega)) (inM_out (by omega)) (inM_out (by omega)), sset_in (fun j hj => inM_out (by omega))]
  have e1 : 4 ≤ i → i < 11 → mvL (mrec (inM τ e f) (i - 4)) = mvL (mrec τ (i - 4)) := fun _ _ => (mvL_eq (fun j a b => by unfold mrec; rw [inM_out (by omega)])).symm
  have e2 : 11 ≤ i → ldL (lrec (inM τ e f) (i - 11)) = ldL (lrec τ (i - 11)) := fun _ => (ldL_eq (fun j a b => by unfold lrec; rw [inM_out (by omega)])).symm
  by_cases q : i < 11
  · by_cases q4 : 4 ≤ i
    · rw [e1 q4 q]
      simp only [q, if_true]
      repeat' split <;> first | rfl | omega
    · rcases (show i = 0 ∨ i = 1 ∨ i = 2 ∨ i = 3 by omega) with w | w | w | w <;> subst w <;> rfl
  · rw [e2 (by omega)]
    repeat' split <;> first | rfl | omega
theorem hcell_inL {e : Int} {f : Int → Int} (he : 0 ≤ e ∧ e < 12) {i : Int} (h0 : 0 ≤ i) (h1 : i < 23) (hi : i ≠ 11 + e) : hcell cs a (inL τ e f) i = hcell cs a τ i := by
  unfold hcell
  rw [hoL_in (inL_out (by omega)) (inL_out (by omega)) (inL_out (by omega)) (inL_out (by omega)), sset_in (fun j hj => inL_out (by omega))]
  have e1 : 4 ≤ i → i < 11 → mvL (mrec (inL τ e f) (i - 4)) = mvL (mrec τ (i - 4)) := fun _ _ => (mvL_eq (fun j a b => by unfold mrec; rw [inL_out (by omega)])).symm
  have e2 : 11 ≤ i → ldL (lrec (inL τ e f) (i - 11)) = ldL (lrec τ (i - 11)) := fun _ => (ldL_eq (fun j a b => by unfold lrec; rw [inL_out (by omega)])).symm
  by_cases q : i < 11
  · by_cases q4 : 4 ≤ i
    · rw [e1 q4 q]
      simp only [q, if_true]
      repeat' split <;> first | rfl | omega
    · rcases (show i = 0 ∨ i = 1 ∨ i = 2 ∨ i = 3 by omega) with w | w | w | w <;> subst w <;> rfl
  · rw [e2 (by omega)]
    repeat' split <;> first | rfl | omega
theorem hAt_setM {e : Int} {f : Int → Int} (hH : hAt D cs a τ H) (hI : hI23 a) (he : 0 ≤ e ∧ e < 7) (hT : tAt D (a (4 + e)) f H1) (hF : kF (oneC (a (4 + e))) H H1) : hAt D cs a (inM τ e f) H1 := by
  refine bAt_setF hH hF (fun i h0 h1 => ?_)
  by_cases q : i = 4 + e
  · subst q
    left
    rw [hcell_m he]
    exact tAt_cong hT (mvL_eq (fun j a b => inM_in ⟨a, b⟩))
  · exact Or.inr ⟨hcell_inM he h0 h1 q, fun z => q (hI i (4 + e) h0 h1 (by omega) (by omega) z)⟩
theorem hAt_setL {e : Int} {f : Int → Int} (hH : hAt D cs a τ H) (hI : hI23 a) (he : 0 ≤ e ∧ e < 12) (hT : lAt D (a (11 + e)) f H1) (hF : kF (oneC (a (11 + e))) H H1) : hAt D cs a (inL τ e f) H1 := by
  refine bAt_setF hH hF (fun i h0 h1 => ?_)
  by_cases q : i = 11 + e
  · subst q
    left
    rw [hcell_l he]
    exact lAt_cong hT (ldL_eq (fun j a b => inL_in ⟨a, b⟩))
  · exact Or.inr ⟨hcell_inL he h0 h1 q, fun z => q (hI i (11 + e) h0 h1 (by omega) (by omega) z)⟩
theorem hC_m {e : Int} (he : 0 ≤ e ∧ e < 7) : ∀ q, oneC (a (4 + e)) q → hC23 a q := fun q hq => ⟨4 + e, by omega, by omega, hq⟩
theorem hC_l {e : Int} (he : 0 ≤ e ∧ e < 12) : ∀ q, oneC (a (11 + e)) q → hC23 a q := fun q hq => ⟨11 + e, by omega, by omega, hq⟩
theorem hNe_m {e : Int} (hI : hI23 a) (he : 0 ≤ e ∧ e < 7) : a (4 + e) ≠ a 0 ∧ a (4 + e) ≠ a 1 := ⟨fun z => absurd (hI (4 + e) 0 (by omega) (by omega) (by decide) (by decide) z) (by omega), fun z => absurd (hI (4 + e) 1 (by omega) (by omega) (by decide) (by decide) z) (by omega)⟩
end HB
section HR
variable {p : Program} {l : Launch} {e : Env} {R : Room} {s : State} {m : MethodId} {args : Array Value} {below : List Frame} {meth : Method} {c : Code} {H : Heap} {locs : List Loc} {cells slots : Nat} {Q : State → Prop} {cc : ByteArray} {pc : Nat} {ls : Array Slot} {rest : List Value} {D : va_G} {cs : Nat → ClassId}
variable {a : Int → Nat} {τ : Int → Int} {Ts : List Cond} {own : String} {nL index : Nat} {H0 : Heap} {A : Nat → Prop}
theorem h_g_settings (S : CallFix p m c cc nL s args Ts own) (hin : ∀ w ∈ wsX20, w ∈ Ts) (hK : kK D cs s) (hH : hsAt D cs a τ H) (hlink : (Cond.fieldLink own index "EnergyDiscs$House" "settings" "[I").before args s = true) (d : decode cc pc = .ok (.getfield index, 3)) (kk : W p l e R s m args below meth c H locs cells slots Q (F0 m (pc + 3) ls (.ref (a 1) :: rest))) : W p l e R s m args below meth c H locs cells slots Q (F0 m pc ls (.ref (a 0) :: rest)) := x_get (C := RX2) (T := TX2) (N := 7) S.1 S.2.1 S.2.2.2.2 hin S.2.2.2.1 hK (hsAt_0 hH) rfl 0 (by decide) hlink rfl d kk
theorem h_g_meters (S : CallFix p m c cc nL s args Ts own) (hin : ∀ w ∈ wsX20, w ∈ Ts) (hK : kK D cs s) (hH : hsAt D cs a τ H) (hlink : (Cond.fieldLink own index "EnergyDiscs$House" "meters" "[LEnergyDiscs$Meter;").before args s = true) (d : decode cc pc = .ok (.getfield index, 3)) (kk : W p l e R s m args below meth c H locs cells slots Q (F0 m (pc + 3) ls (.ref (a 2) :: rest))) : W p l e R s m args below meth c H locs cells slots Q (F0 m pc ls (.ref (a 0) :: rest)) := x_get (C := RX2) (T := TX2) (N := 7) S.1 S.2.1 S.2.2.2.2 hin S.2.2.2.1 hK (hsAt_0 hH) rfl 1 (by decide) hlink rfl d kk
theorem h_g_loads (S : CallFix p m c cc nL s args Ts own) (hin : ∀ w ∈ wsX20, w ∈ Ts) (hK : kK D cs s) (hH : hsAt D cs a τ H) (hlink : (Cond.fieldLink own index "EnergyDiscs$House" "loads" "[LEnergyDiscs$Load;").before args s = true) (d : decode cc pc = .ok (.getfield index, 3)) (kk : W p l e R s m args below meth c H locs cells slots Q (F0 m (pc + 3) ls (.ref (a 3) :: rest))) : W p l e R s m args below meth c H locs cells slots Q (F0 m pc ls (.ref (a 0) :: rest)) := x_get (C := RX2) (T := TX2) (N := 7) S.1 S.2.1 S.2.2.2.2 hin S.2.2.2.1 hK (hsAt_0 hH) rfl 2 (by decide) hlink rfl d kk
theorem h_g_time (S : CallFix p m c cc nL s args Ts own) (hin : ∀ w ∈ wsX20, w ∈ Ts) (hK : kK D cs s) (hH : hsAt D cs a τ H) (hlink : (Cond.fieldLink own index "EnergyDiscs$House" "time" "I").before args s = true) (d : decode cc pc = .ok (.getfield index, 3)) (kk : W p l e R s m args below meth c H locs cells slots Q (F0 m (pc + 3) ls (.int (zI (τ 6)) :: rest))) : W p l e R s m args below meth c H locs cells slots Q (F0 m pc ls (.ref (a 0) :: rest)) := x_get (C := RX2) (T := TX2) (N := 7) S.1 S.2.1 S.2.2.2.2 hin S.2.2.2.1 hK (hsAt_0 hH) rfl 3 (by decide) hlink rfl d kk
theorem h_p_time (S : CallFix p m c cc nL s args Ts own) (hin : ∀ w ∈ wsX20, w ∈ Ts) (hK : kK D cs s) (hH : hAt D cs a τ H) (hI : hI23 a) (hS : va_S A H0 H locs) (hA : A (a 0)) (hlink : (Cond.fieldLink own index "EnergyDiscs$House" "time" "I").before args s = true) {v : Int} (d : decode cc pc = .ok (.putfield index, 3)) (kk : ∀ (H1 : Heap) (locs1 : List Loc), hAt D cs a (up τ 6 v) H1 → kF (oneC (a 0)) H H1 → va_S A H0 H1 locs1 → W p l e R s m args below meth c H1 locs1 cells slots Q (F0 m (pc + 3) ls rest)) : W p l e R s m args below meth c H locs cells slots Q (F0 m pc ls (.int (zI v) :: .ref (a 0) :: rest)) :=
  x_put (C := RX2) (T := TX2) (N := 7) S.1 S.2.1 S.2.2.2.2 hin tyX2 tyX2_ok nmX2 S.2.2.2.1 hK (hsAt_0 (hAt_hs hH)) rfl 3 (by decide) hlink rfl rfl rfl (by show 3 < 7; decide) d (fun H1 j e z oq => kk H1 _ (bAt_setF hH (kF_put z oq) (fun i h0 h1 => by
    by_cases q : i = 0
    · subst q
      left
      have q2 : (hoL a τ).set 3 (.int (zI v)) = hoL a (up τ 6 v) := by simp [hoL, up]
      rw [q2] at e
      exact e
    · refine Or.inr ⟨?_, fun w => q (hI i 0 h0 h1 (by decide) (by decide) w)⟩
      unfold hcell
      rw [if_neg q, if_neg q, sset_in (τ := τ) (τ2 := up τ 6 v) (fun j hj => up_n (by omega))]
      by_cases q4 : 4 ≤ i
      · by_cases q11 : i < 11
        · rw [if_pos q11, if_pos q11, ← mvL_eq (f := mrec τ (i - 4)) (f2 := mrec (up τ 6 v) (i - 4)) (fun j a b => up_n (by omega))]
        · rw [if_neg q11, if_neg q11, ← ldL_eq (f := lrec τ (i - 11)) (f2 := lrec (up τ 6 v) (i - 11)) (fun j a b => up_n (by omega))]
      · rcases (show i = 0 ∨ i = 1 ∨ i = 2 ∨ i = 3 by omega) with w | w | w | w <;> subst w <;> first | exact absurd rfl q | rfl)) (kF_put z oq) (hS.put z oq hA))
theorem h_g_meterCount (S : CallFix p m c cc nL s args Ts own) (hin : ∀ w ∈ wsX20, w ∈ Ts) (hK : kK D cs s) (hH : hsAt D cs a τ H) (hlink : (Cond.fieldLink own index "EnergyDiscs$House" "meterCount" "I").before args s = true) (d : decode cc pc = .ok (.getfield index, 3)) (kk : W p l e R s m args below meth c H locs cells slots Q (F0 m (pc + 3) ls (.int (zI (τ 7)) :: rest))) : W p l e R s m args below meth c H locs cells slots Q (F0 m pc ls (.ref (a 0) :: rest)) := x_get (C := RX2) (T := TX2) (N := 7) S.1 S.2.1 S.2.2.2.2 hin S.2.2.2.1 hK (hsAt_0 hH) rfl 4 (by decide) hlink rfl d kk
theorem h_p_meterCount (S : CallFix p m c cc nL s args Ts own) (hin : ∀ w ∈ wsX20, w ∈ Ts) (hK : kK D cs s) (hH : hAt D cs a τ H) (hI : hI23 a) (hS : va_S A H0 H locs) (hA : A (a 0)) (hlink : (Cond.fieldLink own index "EnergyDiscs$House" "meterCount" "I").before args s = true) {v : Int} (d : decode cc pc = .ok (.putfield index, 3)) (kk : ∀ (H1 : Heap) (locs1 : List Loc), hAt D cs a (up τ 7 v) H1 → kF (oneC (a 0)) H H1 → va_S A H0 H1 locs1 → W p l e R s m args below meth c H1 locs1 cells slots Q (F0 m (pc + 3) ls rest)) : W p l e R s m args below meth c H locs cells slots Q (F0 m pc ls (.int (zI v) :: .ref (a 0) :: rest)) :=
  x_put (C := RX2) (T := TX2) (N := 7) S.1 S.2.1 S.2.2.2.2 hin tyX2 tyX2_ok nmX2 S.2.2.2.1 hK (hsAt_0 (hAt_hs hH)) rfl 4 (by decide) hlink rfl rfl rfl (by show 4 < 7; decide) d (fun H1 j e z oq => kk H1 _ (bAt_setF hH (kF_put z oq) (fun i h0 h1 => by
    by_cases q : i = 0
    · subst q
      left
      have q2 : (hoL a τ).set 4 (.int (zI v)) = hoL a (up τ 7 v) := by simp [hoL, up]
      rw [q2] at e
      exact e
    · refine Or.inr ⟨?_, fun w => q (hI i 0 h0 h1 (by decide) (by decide) w)⟩
      unfold hcell
      rw [if_neg q, if_neg q, sset_in (τ := τ) (τ2 := up τ 7 v) (fun j hj => up_n (by omega))]
      by_cases q4 : 4 ≤ i
      · by_cases q11 : i < 11
        · rw [if_pos q11, if_pos q11, ← mvL_eq (f := mrec τ (i - 4)) (f2 := mrec (up τ 7 v) (i - 4)) (fun j a b => up_n (by omega))]
        · rw [if_neg q11, if_neg q11, ← ldL_eq (f := lrec τ (i - 11)) (f2 := lrec (up τ 7 v) (i - 11)) (fun j a b => up_n (by omega))]
      · rcases (show i = 0 ∨ i = 1 ∨ i = 2 ∨ i = 3 by omega) with w | w | w | w <;> subst w <;> first | exact absurd rfl q | rfl)) (kF_put z oq) (hS.put z oq hA))
theorem h_g_loadCount (S : CallFix p m c cc nL s args Ts own) (hin : ∀ w ∈ wsX20, w ∈ Ts) (hK : kK D cs s) (hH : hsAt D cs a τ H) (hlink : (Cond.fieldLink own index "EnergyDiscs$House" "loadCount" "I").before args s = true) (d : decode cc pc = .ok (.getfield index, 3)) (kk : W p l e R s m args below meth c H locs cells slots Q (F0 m (pc + 3) ls (.int (zI (τ 8)) :: rest))) : W p l e R s m args below meth c H locs cells slots Q (F0 m pc ls (.ref (a 0) :: rest)) := x_get (C := RX2) (T := TX2) (N := 7) S.1 S.2.1 S.2.2.2.2 hin S.2.2.2.1 hK (hsAt_0 hH) rfl 5 (by decide) hlink rfl d kk
theorem h_p_loadCount (S : CallFix p m c cc nL s args Ts own) (hin : ∀ w ∈ wsX20, w ∈ Ts) (hK : kK D cs s) (hH : hAt D cs a τ H) (hI : hI23 a) (hS : va_S A H0 H locs) (hA : A (a 0)) (hlink : (Cond.fieldLink own index "EnergyDiscs$House" "loadCount" "I").before args s = true) {v : Int} (d : decode cc pc = .ok (.putfield index, 3)) (kk : ∀ (H1 : Heap) (locs1 : List Loc), hAt D cs a (up τ 8 v) H1 → kF (oneC (a 0)) H H1 → va_S A H0 H1 locs1 → W p l e R s m args below meth c H1 locs1 cells slots Q (F0 m (pc + 3) ls rest)) : W p l e R s m args below meth c H locs cells slots Q (F0 m pc ls (.int (zI v) :: .ref (a 0) :: rest)) :=
  x_put (C := RX2) (T := TX2) (N := 7) S.1 S.2.1 S.2.2.2.2 hin tyX2 tyX2_ok nmX2 S.2.2.2.1 hK (hsAt_0 (hAt_hs hH)) rfl 5 (by decide) hlink rfl rfl rfl (by show 5 < 7; decide) d (fun H1 j e z oq => kk H1 _ (bAt_setF hH (kF_put z oq) (fun i h0 h1 => by
    by_cases q : i = 0
    · subst q
      left
      have q2 : (hoL a τ).set 5 (.int (zI v)) = hoL a (up τ 8 v) := by simp [hoL, up]
      rw [q2] at e
      exact e
    · refine Or.inr ⟨?_, fun w => q (hI i 0 h0 h1 (by decide) (by decide) w)⟩
      unfold hcell
      rw [if_neg q, if_neg q, sset_in (τ := τ) (τ2 := up τ 8 v) (fun j hj => up_n (by omega))]
      by_cases q4 : 4 ≤ i
      · by_cases q11 : i < 11
        · rw [if_pos q11, if_pos q11, ← mvL_eq (f := mrec τ (i - 4)) (f2 := mrec (up τ 8 v) (i - 4)) (fun j a b => up_n (by omega))]
        · rw [if_neg q11, if_neg q11, ← ldL_eq (f := lrec τ (i - 11)) (f2 := lrec (up τ 8 v) (i - 11)) (fun j a b => up_n (by omega))]
      · rcases (show i = 0 ∨ i = 1 ∨ i = 2 ∨ i = 3 by omega) with w | w | w | w <;> subst w <;> first | exact absurd rfl q | rfl)) (kF_put z oq) (hS.put z oq hA))
theorem h_g_greatestSeal (S : CallFix p m c cc nL s args Ts own) (hin : ∀ w ∈ wsX20, w ∈ Ts) (hK : kK D cs s) (hH : hsAt D cs a τ H) (hlink : (Cond.fieldLink own index "EnergyDiscs$House" "greatestSeal" "I").before args s = true) (d : decode cc pc = .ok (.getfield index, 3)) (kk : W p l e R s m args below meth c H locs cells slots Q (F0 m (pc + 3) ls (.int (zI (τ 10)) :: rest))) : W p l e R s m args below meth c H locs cells slots Q (F0 m pc ls (.ref (a 0) :: rest)) := x_get (C := RX2) (T := TX2) (N := 7) S.1 S.2.1 S.2.2.2.2 hin S.2.2.2.1 hK (hsAt_0 hH) rfl 6 (by decide) hlink rfl d kk
theorem h_p_greatestSeal (S : CallFix p m c cc nL s args Ts own) (hin : ∀ w ∈ wsX20, w ∈ Ts) (hK : kK D cs s) (hH : hAt D cs a τ H) (hI : hI23 a) (hS : va_S A H0 H locs) (hA : A (a 0)) (hlink : (Cond.fieldLink own index "EnergyDiscs$House" "greatestSeal" "I").before args s = true) {v : Int} (d : decode cc pc = .ok (.putfield index, 3)) (kk : ∀ (H1 : Heap) (locs1 : List Loc), hAt D cs a (up τ 10 v) H1 → kF (oneC (a 0)) H H1 → va_S A H0 H1 locs1 → W p l e R s m args below meth c H1 locs1 cells slots Q (F0 m (pc + 3) ls rest)) : W p l e R s m args below meth c H locs cells slots Q (F0 m pc ls (.int (zI v) :: .ref (a 0) :: rest)) :=
  x_put (C := RX2) (T := TX2) (N := 7) S.1 S.2.1 S.2.2.2.2 hin tyX2 tyX2_ok nmX2 S.2.2.2.1 hK (hsAt_0 (hAt_hs hH)) rfl 6 (by decide) hlink rfl rfl rfl (by show 6 < 7; decide) d (fun H1 j e z oq => kk H1 _ (bAt_setF hH (kF_put z oq) (fun i h0 h1 => by
    by_cases q : i = 0
    · subst q
      left
      have q2 : (hoL a τ).set 6 (.int (zI v)) = hoL a (up τ 10 v) := by simp [hoL, up]
      rw [q2] at e
      exact e
    · refine Or.inr ⟨?_, fun w => q (hI i 0 h0 h1 (by decide) (by decide) w)⟩
      unfold hcell
      rw [if_neg q, if_neg q, sset_in (τ := τ) (τ2 := up τ 10 v) (fun j hj => up_n (by omega))]
      by_cases q4 : 4 ≤ i
      · by_cases q11 : i < 11
        · rw [if_pos q11, if_pos q11, ← mvL_eq (f := mrec τ (i - 4)) (f2 := mrec (up τ 10 v) (i - 4)) (fun j a b => up_n (by omega))]
        · rw [if_neg q11, if_neg q11, ← ldL_eq (f := lrec τ (i - 11)) (f2 := lrec (up τ 10 v) (i - 11)) (fun j a b => up_n (by omega))]
      · rcases (show i = 0 ∨ i = 1 ∨ i = 2 ∨ i = 3 by omega) with w | w | w | w <;> subst w <;> first | exact absurd rfl q | rfl)) (kF_put z oq) (hS.put z oq hA))
theorem h_l_set (S : CallFix p m c cc nL s args Ts own) (hK : kK D cs s) (hH : hsAt D cs a τ H) {i : Int} (hi : 0 ≤ i ∧ i < 6) (d : decode cc pc = .ok (.iaload, 1)) (kk : W p l e R s m args below meth c H locs cells slots Q (F0 m (pc + 1) ls (.int (zI (τ i)) :: rest))) : W p l e R s m args below meth c H locs cells slots Q (F0 m pc ls (.int (zI i) :: .ref (a 1) :: rest)) := g_ld S hK (hsAt_1 hH) hi d (by rw [show sset τ i = τ i from if_pos hi.2]; exact kk)
theorem h_s_set (S : CallFix p m c cc nL s args Ts own) (hK : kK D cs s) (hH : hAt D cs a τ H) (hI : hI23 a) (hS : va_S A H0 H locs) (hA : A (a 1)) {i v : Int} (hi : 0 ≤ i ∧ i < 6) (d : decode cc pc = .ok (.iastore, 1)) (kk : ∀ (H1 : Heap) (locs1 : List Loc), hAt D cs a (up τ i v) H1 → kF (oneC (a 1)) H H1 → va_S A H0 H1 locs1 → W p l e R s m args below meth c H1 locs1 cells slots Q (F0 m (pc + 1) ls rest)) : W p l e R s m args below meth c H locs cells slots Q (F0 m pc ls (.int (zI v) :: .int (zI i) :: .ref (a 1) :: rest)) :=
  x_iast S.1 S.2.1 hK (hsAt_1 (hAt_hs hH)) hi (by decide) d (fun H1 j e z oq => kk H1 _ (bAt_setF hH (kF_put z oq) (fun t h0 h1 => by
    by_cases q : t = 1
    · subst q
      left
      have q2 : (upd (fun k : Nat => zI (sset τ k)) i.toNat (zI v)) = fun k : Nat => zI (sset (up τ i v) k) := by
        rw [updI_u _ _ _ hi.1]
        funext k
        unfold sset up
        by_cases hk : (k : Int) = i
        · rw [if_pos hk, if_pos hk, if_pos (by omega)]
        · rw [if_neg hk, if_neg hk]
      rw [q2] at e
      exact e
    · refine Or.inr ⟨?_, fun w => q (hI t 1 h0 h1 (by decide) (by decide) w)⟩
      unfold hcell
      rw [if_neg q, if_neg q, hoL_in (τ := τ) (τ2 := up τ i v) (up_n (by omega)) (up_n (by omega)) (up_n (by omega)) (up_n (by omega))]
      by_cases q4 : 4 ≤ t
      · by_cases q11 : t < 11
        · rw [if_pos q11, if_pos q11, ← mvL_eq (f := mrec τ (t - 4)) (f2 := mrec (up τ i v) (t - 4)) (fun j a b => up_n (by omega))]
        · rw [if_neg q11, if_neg q11, ← ldL_eq (f := lrec τ (t - 11)) (f2 := lrec (up τ i v) (t - 11)) (fun j a b => up_n (by omega))]
      · rcases (show t = 0 ∨ t = 1 ∨ t = 2 ∨ t = 3 by omega) with w | w | w | w <;> subst w <;> first | exact absurd rfl q | rfl)) (kF_put z oq) (hS.put z oq hA))
theorem h_l_meters (S : CallFix p m c cc nL s args Ts own) (hK : kK D cs s) (hH : hAt D cs a τ H) {i : Int} (hi : 0 ≤ i ∧ i < 7) (d : decode cc pc = .ok (.aaload, 1)) (kk : W p l e R s m args below meth c H locs cells slots Q (F0 m (pc + 1) ls (.ref (a (4 + i)) :: rest))) : W p l e R s m args below meth c H locs cells slots Q (F0 m pc ls (.int (zI i) :: .ref (a 2) :: rest)) := x_aald4 S.1 S.2.1 hK (hAt_2 hH) hi (by decide) d (by rw [show ((i.toNat : Nat) : Int) = i by omega]; exact kk)
theorem h_l_loads (S : CallFix p m c cc nL s args Ts own) (hK : kK D cs s) (hH : hAt D cs a τ H) {i : Int} (hi : 0 ≤ i ∧ i < 12) (d : decode cc pc = .ok (.aaload, 1)) (kk : W p l e R s m args below meth c H locs cells slots Q (F0 m (pc + 1) ls (.ref (a (11 + i)) :: rest))) : W p l e R s m args below meth c H locs cells slots Q (F0 m pc ls (.int (zI i) :: .ref (a 3) :: rest)) := x_aald5 S.1 S.2.1 hK (hAt_3 hH) hi (by decide) d (by rw [show ((i.toNat : Nat) : Int) = i by omega]; exact kk)
theorem hm_g_through (S : CallFix p m c cc nL s args Ts own) (hin : ∀ w ∈ wsX40, w ∈ Ts) (hK : kK D cs s) (hH : hAt D cs a τ H) {el : Int} (he : 0 ≤ el ∧ el < 7) (hlink : (Cond.fieldLink own index "EnergyDiscs$Meter" "through" "I").before args s = true) (d : decode cc pc = .ok (.getfield index, 3)) (kk : W p l e R s m args below meth c H locs cells slots Q (F0 m (pc + 3) ls (.int (zI (τ (11 + 13 * el + 0))) :: rest))) : W p l e R s m args below meth c H locs cells slots Q (F0 m pc ls (.ref (a (4 + el)) :: rest)) := t_g_through S hin hK (hAt_m hH he) hlink d kk
theorem hm_g_place (S : CallFix p m c cc nL s args Ts own) (hin : ∀ w ∈ wsX40, w ∈ Ts) (hK : kK D cs s) (hH : hAt D cs a τ H) {el : Int} (he : 0 ≤ el ∧ el < 7) (hlink : (Cond.fieldLink own index "EnergyDiscs$Meter" "place" "I").before args s = true) (d : decode cc pc = .ok (.getfield index, 3)) (kk : W p l e R s m args below meth c H locs cells slots Q (F0 m (pc + 3) ls (.int (zI (τ (11 + 13 * el + 1))) :: rest))) : W p l e R s m args below meth c H locs cells slots Q (F0 m pc ls (.ref (a (4 + el)) :: rest)) := t_g_place S hin hK (hAt_m hH he) hlink d kk
theorem hm_g_speed (S : CallFix p m c cc nL s args Ts own) (hin : ∀ w ∈ wsX40, w ∈ Ts) (hK : kK D cs s) (hH : hAt D cs a τ H) {el : Int} (he : 0 ≤ el ∧ el < 7) (hlink : (Cond.fieldLink own index "EnergyDiscs$Meter" "speed" "I").before args s = true) (d : decode cc pc = .ok (.getfield index, 3)) (kk : W p l e R s m args below meth c H locs cells slots Q (F0 m (pc + 3) ls (.int (zI (τ (11 + 13 * el + 2))) :: rest))) : W p l e R s m args below meth c H locs cells slots Q (F0 m pc ls (.ref (a (4 + el)) :: rest)) := t_g_speed S hin hK (hAt_m hH he) hlink d kk
theorem hm_g_age (S : CallFix p m c cc nL s args Ts own) (hin : ∀ w ∈ wsX40, w ∈ Ts) (hK : kK D cs s) (hH : hAt D cs a τ H) {el : Int} (he : 0 ≤ el ∧ el < 7) (hlink : (Cond.fieldLink own index "EnergyDiscs$Meter" "age" "I").before args s = true) (d : decode cc pc = .ok (.getfield index, 3)) (kk : W p l e R s m args below meth c H locs cells slots Q (F0 m (pc + 3) ls (.int (zI (τ (11 + 13 * el + 9))) :: rest))) : W p l e R s m args below meth c H locs cells slots Q (F0 m pc ls (.ref (a (4 + el)) :: rest)) := t_g_age S hin hK (hAt_m hH he) hlink d kk
theorem hm_g_dayTurns (S : CallFix p m c cc nL s args Ts own) (hin : ∀ w ∈ wsX40, w ∈ Ts) (hK : kK D cs s) (hH : hAt D cs a τ H) {el : Int} (he : 0 ≤ el ∧ el < 7) (hlink : (Cond.fieldLink own index "EnergyDiscs$Meter" "dayTurns" "I").before args s = true) (d : decode cc pc = .ok (.getfield index, 3)) (kk : W p l e R s m args below meth c H locs cells slots Q (F0 m (pc + 3) ls (.int (zI (τ (11 + 13 * el + 3))) :: rest))) : W p l e R s m args below meth c H locs cells slots Q (F0 m pc ls (.ref (a (4 + el)) :: rest)) := t_g_dayTurns S hin hK (hAt_m hH he) hlink d kk
theorem hm_g_nightTurns (S : CallFix p m c cc nL s args Ts own) (hin : ∀ w ∈ wsX40, w ∈ Ts) (hK : kK D cs s) (hH : hAt D cs a τ H) {el : Int} (he : 0 ≤ el ∧ el < 7) (hlink : (Cond.fieldLink own index "EnergyDiscs$Meter" "nightTurns" "I").before args s = true) (d : decode cc pc = .ok (.getfield index, 3)) (kk : W p l e R s m args below meth c H locs cells slots Q (F0 m (pc + 3) ls (.int (zI (τ (11 + 13 * el + 4))) :: rest))) : W p l e R s m args below meth c H locs cells slots Q (F0 m pc ls (.ref (a (4 + el)) :: rest)) := t_g_nightTurns S hin hK (hAt_m hH he) hlink d kk
theorem hm_g_billedDayTurns (S : CallFix p m c cc nL s args Ts own) (hin : ∀ w ∈ wsX40, w ∈ Ts) (hK : kK D cs s) (hH : hAt D cs a τ H) {el : Int} (he : 0 ≤ el ∧ el < 7) (hlink : (Cond.fieldLink own index "EnergyDiscs$Meter" "billedDayTurns" "I").before args s = true) (d : decode cc pc = .ok (.getfield index, 3)) (kk : W p l e R s m args below meth c H locs cells slots Q (F0 m (pc + 3) ls (.int (zI (τ (11 + 13 * el + 11))) :: rest))) : W p l e R s m args below meth c H locs cells slots Q (F0 m pc ls (.ref (a (4 + el)) :: rest)) := t_g_billedDayTurns S hin hK (hAt_m hH he) hlink d kk
theorem hm_g_billedNightTurns (S : CallFix p m c cc nL s args Ts own) (hin : ∀ w ∈ wsX40, w ∈ Ts) (hK : kK D cs s) (hH : hAt D cs a τ H) {el : Int} (he : 0 ≤ el ∧ el < 7) (hlink : (Cond.fieldLink own index "EnergyDiscs$Meter" "billedNightTurns" "I").before args s = true) (d : decode cc pc = .ok (.getfield index, 3)) (kk : W p l e R s m args below meth c H locs cells slots Q (F0 m (pc + 3) ls (.int (zI (τ (11 + 13 * el + 12))) :: rest))) : W p l e R s m args below meth c H locs cells slots Q (F0 m pc ls (.ref (a (4 + el)) :: rest)) := t_g_billedNightTurns S hin hK (hAt_m hH he) hlink d kk
theorem hm_g_flowed (S : CallFix p m c cc nL s args Ts own) (hin : ∀ w ∈ wsX40, w ∈ Ts) (hK : kK D cs s) (hH : hAt D cs a τ H) {el : Int} (he : 0 ≤ el ∧ el < 7) (hlink : (Cond.fieldLink own index "EnergyDiscs$Meter" "flowed" "J").before args s = true) (d : decode cc pc = .ok (.getfield index, 3)) (kk : W p l e R s m args below meth c H locs cells slots Q (F0 m (pc + 3) ls (.long (zL (τ (11 + 13 * el + 5))) :: rest))) : W p l e R s m args below meth c H locs cells slots Q (F0 m pc ls (.ref (a (4 + el)) :: rest)) := t_g_flowed S hin hK (hAt_m hH he) hlink d kk
theorem hm_g_seal (S : CallFix p m c cc nL s args Ts own) (hin : ∀ w ∈ wsX40, w ∈ Ts) (hK : kK D cs s) (hH : hAt D cs a τ H) {el : Int} (he : 0 ≤ el ∧ el < 7) (hlink : (Cond.fieldLink own index "EnergyDiscs$Meter" "seal" "I").before args s = true) (d : decode cc pc = .ok (.getfield index, 3)) (kk : W p l e R s m args below meth c H locs cells slots Q (F0 m (pc + 3) ls (.int (zI (τ (11 + 13 * el + 6))) :: rest))) : W p l e R s m args below meth c H locs cells slots Q (F0 m pc ls (.ref (a (4 + el)) :: rest)) := t_g_seal S hin hK (hAt_m hH he) hlink d kk
theorem hm_g_broken (S : CallFix p m c cc nL s args Ts own) (hin : ∀ w ∈ wsX40, w ∈ Ts) (hK : kK D cs s) (hH : hAt D cs a τ H) {el : Int} (he : 0 ≤ el ∧ el < 7) (hlink : (Cond.fieldLink own index "EnergyDiscs$Meter" "broken" "Z").before args s = true) (d : decode cc pc = .ok (.getfield index, 3)) (kk : W p l e R s m args below meth c H locs cells slots Q (F0 m (pc + 3) ls (.int (zI (τ (11 + 13 * el + 7))) :: rest))) : W p l e R s m args below meth c H locs cells slots Q (F0 m pc ls (.ref (a (4 + el)) :: rest)) := t_g_broken S hin hK (hAt_m hH he) hlink d kk
theorem hm_g_billed (S : CallFix p m c cc nL s args Ts own) (hin : ∀ w ∈ wsX40, w ∈ Ts) (hK : kK D cs s) (hH : hAt D cs a τ H) {el : Int} (he : 0 ≤ el ∧ el < 7) (hlink : (Cond.fieldLink own index "EnergyDiscs$Meter" "billed" "I").before args s = true) (d : decode cc pc = .ok (.getfield index, 3)) (kk : W p l e R s m args below meth c H locs cells slots Q (F0 m (pc + 3) ls (.int (zI (τ (11 + 13 * el + 8))) :: rest))) : W p l e R s m args below meth c H locs cells slots Q (F0 m pc ls (.ref (a (4 + el)) :: rest)) := t_g_billed S hin hK (hAt_m hH he) hlink d kk
theorem hm_g_visits (S : CallFix p m c cc nL s args Ts own) (hin : ∀ w ∈ wsX40, w ∈ Ts) (hK : kK D cs s) (hH : hAt D cs a τ H) {el : Int} (he : 0 ≤ el ∧ el < 7) (hlink : (Cond.fieldLink own index "EnergyDiscs$Meter" "visits" "I").before args s = true) (d : decode cc pc = .ok (.getfield index, 3)) (kk : W p l e R s m args below meth c H locs cells slots Q (F0 m (pc + 3) ls (.int (zI (τ (11 + 13 * el + 10))) :: rest))) : W p l e R s m args below meth c H locs cells slots Q (F0 m pc ls (.ref (a (4 + el)) :: rest)) := t_g_visits S hin hK (hAt_m hH he) hlink d kk
theorem hl_g_behind (S : CallFix p m c cc nL s args Ts own) (hin : ∀ w ∈ wsX30, w ∈ Ts) (hK : kK D cs s) (hH : hAt D cs a τ H) {el : Int} (he : 0 ≤ el ∧ el < 12) (hlink : (Cond.fieldLink own index "EnergyDiscs$Load" "behind" "I").before args s = true) (d : decode cc pc = .ok (.getfield index, 3)) (kk : W p l e R s m args below meth c H locs cells slots Q (F0 m (pc + 3) ls (.int (zI (τ (102 + 3 * el + 0))) :: rest))) : W p l e R s m args below meth c H locs cells slots Q (F0 m pc ls (.ref (a (11 + el)) :: rest)) := l_g_behind S hin hK (hAt_l hH he) hlink d kk
theorem hl_g_power (S : CallFix p m c cc nL s args Ts own) (hin : ∀ w ∈ wsX30, w ∈ Ts) (hK : kK D cs s) (hH : hAt D cs a τ H) {el : Int} (he : 0 ≤ el ∧ el < 12) (hlink : (Cond.fieldLink own index "EnergyDiscs$Load" "power" "I").before args s = true) (d : decode cc pc = .ok (.getfield index, 3)) (kk : W p l e R s m args below meth c H locs cells slots Q (F0 m (pc + 3) ls (.int (zI (τ (102 + 3 * el + 1))) :: rest))) : W p l e R s m args below meth c H locs cells slots Q (F0 m pc ls (.ref (a (11 + el)) :: rest)) := l_g_power S hin hK (hAt_l hH he) hlink d kk
theorem hl_g_on (S : CallFix p m c cc nL s args Ts own) (hin : ∀ w ∈ wsX30, w ∈ Ts) (hK : kK D cs s) (hH : hAt D cs a τ H) {el : Int} (he : 0 ≤ el ∧ el < 12) (hlink : (Cond.fieldLink own index "EnergyDiscs$Load" "on" "Z").before args s = true) (d : decode cc pc = .ok (.getfield index, 3)) (kk : W p l e R s m args below meth c H locs cells slots Q (F0 m (pc + 3) ls (.int (zI (τ (102 + 3 * el + 2))) :: rest))) : W p l e R s m args below meth c H locs cells slots Q (F0 m pc ls (.ref (a (11 + el)) :: rest)) := l_g_on S hin hK (hAt_l hH he) hlink d kk
end HR
