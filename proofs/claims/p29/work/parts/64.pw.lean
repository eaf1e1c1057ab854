/-! the law's world: an EnergyDiscs whose House counts and whose pad is told; all else is hidden -/
abbrev EX := (Int → Int → Int) × (Int → Int → Int) × (Int → Int) × Int × Int × (Int → Int)
def FK (x : EX) : Prop := (0 ≤ x.2.2.2.1 ∧ x.2.2.2.1 < 7) ∧ (0 ≤ x.2.2.2.2.1 ∧ x.2.2.2.2.1 ≤ 6)
def PX (D : va_G) (cs : Nat → ClassId) (a : Int → Nat) (τ pd : Int → Int) (ln : Int) (x : EX) (H : Heap) : Prop := eAt D cs a τ x.1 x.2.1 x.2.2.1 pd ln x.2.2.2.1 x.2.2.2.2.1 x.2.2.2.2.2 H
def PW (D : va_G) (cs : Nat → ClassId) (a : Int → Nat) (τ pd : Int → Int) (ln : Int) (H : Heap) : Prop := ∃ x : EX, PX D cs a τ pd ln x H ∧ FK x
theorem PW_mk {D : va_G} {cs : Nat → ClassId} {a : Int → Nat} {τ : Int → Int} {ss hh : Int → Int → Int} {pr pd : Int → Int} {ln fr kp : Int} {su : Int → Int} {H : Heap} (h : eAt D cs a τ ss hh pr pd ln fr kp su H) (h1 : 0 ≤ fr ∧ fr < 7) (h2 : 0 ≤ kp ∧ kp ≤ 6) : PW D cs a τ pd ln H := ⟨(ss, hh, pr, fr, kp, su), h, h1, h2⟩
theorem PW_0 {D : va_G} {cs : Nat → ClassId} {a : Int → Nat} {τ pd : Int → Int} {ln : Int} {H : Heap} (h : PW D cs a τ pd ln H) : va_at D vwCl (a 0, .inr (5, [.ref (a 1), .ref (a 2), .ref (a 3), .ref (a 4), .ref (a 5), .ref (a 6)])) H ∨ ∃ fs, va_at D vwCl (a 0, .inr (5, fs)) H := by
  obtain ⟨x, h1, h2⟩ := h
  exact Or.inr ⟨_, eAt_0 h1⟩
theorem PW_rc {D : va_G} {cs : Nat → ClassId} {a : Int → Nat} {τ pd : Int → Int} {ln : Int} {H : Heap} {s : State} (hK : kK D cs s) (h : PW D cs a τ pd ln H) : ∃ cell : Cell, H[a 0]? = some cell ∧ cell.vm.isStatics = false ∧ s.vm.findClass RX6 = some cell.cls := by
  obtain ⟨x, h1, h2⟩ := h
  exact x_rc hK (eAt_0 h1) rfl
theorem kR_ex {D : va_G} {cs : Nat → ClassId} {l : Launch} {y : MethodName} {ws : List Cond} {rm : Room} {as : List Value} {v : Option Value} {X : Type} {P : X → Heap → Prop} {R : X → Prop} (h : ∀ x, R x → kR D cs l y ws rm as (P x) v) : kR D cs l y ws rm as (fun H => ∃ x, P x H ∧ R x) v := by
  intro p e h1 h2 h3 s m args below h4 h5 h6 h7
  obtain ⟨ha, hK, x, hx, hR⟩ := h6
  exact h x hR p e h1 h2 h3 s m args below h4 h5 ⟨ha, hK, hx⟩ h7
theorem kM_ex {D : va_G} {cs : Nat → ClassId} {l : Launch} {y : MethodName} {ws : List Cond} {rm : Room} {as : List Value} {v : Option Value} {X : Type} {P B : X → Heap → Prop} {R : X → Prop} {B2 : Heap → Prop} {A : Nat → Prop} (h : ∀ x, R x → kM D cs l y ws rm as (P x) v (B x) A) (hB : ∀ x H, R x → B x H → B2 H) : kM D cs l y ws rm as (fun H => ∃ x, P x H ∧ R x) v B2 A := by
  intro p e h1 h2 h3 s m args below h4 h5 h6 h7
  obtain ⟨ha, hK, x, hx, hR⟩ := h6
  exact Met_mono (h x hR) (fun _ _ q => q) (fun _ _ _ _ _ q => ⟨q.1, hB x _ hR q.2.1, q.2.2⟩) (fun _ q => q) p e h1 h2 h3 s m args below h4 h5 ⟨ha, hK, hx⟩ h7
theorem kMz_ex {D : va_G} {cs : Nat → ClassId} {N : Nat} {l : Launch} {y : MethodName} {ws : List Cond} {rm : Room} {as : List Value} {v : Option Value} {X : Type} {P B : X → Heap → Prop} {R : X → Prop} {B2 : Heap → Prop} {A : Nat → Prop} (h : ∀ x, R x → kMz D cs N l y ws rm as (P x) v (B x) A) (hB : ∀ x H, R x → B x H → B2 H) : kMz D cs N l y ws rm as (fun H => ∃ x, P x H ∧ R x) v B2 A := by
  intro p e h1 h2 h3 s m args below h4 h5 h6 h7
  obtain ⟨ha, hK, hZ, x, hx, hR⟩ := h6
  exact Met_mono (h x hR) (fun _ _ q => q) (fun _ _ _ _ _ q => ⟨q.1, hB x _ hR q.2.1, q.2.2⟩) (fun _ q => q) p e h1 h2 h3 s m args below h4 h5 ⟨ha, hK, hZ, hx⟩ h7
/-- what the law may rest on: a state of the reference with it, seals from 1 on -/
def GD (N : Int) (τ : Int → Int) : Prop := (0 ≤ N ∧ N ≤ 1000) ∧ (∃ σ, SM N σ τ) ∧ ∀ k : Int, 0 ≤ k → k < τ 7 → 1 ≤ τ (11 + 13 * k + 6)
section GDS
variable {N : Int} {τ : Int → Int} {k : Int}
theorem gd_g (h : GD N τ) : gOK τ 0 := by
  obtain ⟨-, ⟨σ, h1, h2, h3⟩, -⟩ := h
  exact LE_gOK h3 h1.1
theorem gd_7 (h : GD N τ) : 0 ≤ τ 7 ∧ τ 7 ≤ 7 := (gd_g h).1.1
theorem gd_8 (h : GD N τ) : 0 ≤ τ 8 ∧ τ 8 ≤ 12 := (gd_g h).1.2.1
theorem gd_6 (h : GD N τ) : 0 ≤ τ 6 ∧ τ 6 ≤ 99999 := by
  obtain ⟨-, ⟨σ, h1, h2, h3⟩, -⟩ := h
  rw [h3.lo (by decide) (by decide)]
  exact fOK_6 h1
theorem gd_10 (h : GD N τ) : 0 ≤ τ 10 ∧ τ 10 ≤ N := by
  obtain ⟨-, ⟨σ, h1, h2, h3⟩, -⟩ := h
  rw [h3.ten]
  exact h1.2.2.2.2.1
theorem gd_s (h : GD N τ) : (0 ≤ τ 0 ∧ τ 0 ≤ 99) ∧ (0 ≤ τ 1 ∧ τ 1 ≤ 9) ∧ (τ 2 = 0 ∨ τ 2 = 1) ∧ (100 ≤ τ 3 ∧ τ 3 ≤ 5000) ∧ (0 ≤ τ 4 ∧ τ 4 ≤ 99) ∧ (0 ≤ τ 5 ∧ τ 5 ≤ 99) := by
  have hg := (gd_g h).2.1
  obtain ⟨-, ⟨σ, h1, h2, h3⟩, -⟩ := h
  refine ⟨hg.1, hg.2.1, hg.2.2.1, hg.2.2.2.1, ?_, ?_⟩
  · rw [h3.lo (by decide) (by decide)]; exact h1.2.2.1
  · rw [h3.lo (by decide) (by decide)]; exact h1.2.2.2.1
/-- a meter's numbers -/
theorem gd_m (h : GD N τ) (hk : 0 ≤ k ∧ k < τ 7) : (0 ≤ τ (11 + 13 * k + 1) ∧ τ (11 + 13 * k + 1) < 6000) ∧ (100 ≤ τ (11 + 13 * k + 2) ∧ τ (11 + 13 * k + 2) ≤ 160) ∧ (0 ≤ τ (11 + 13 * k + 9) ∧ τ (11 + 13 * k + 9) ≤ 5000) ∧ (τ (11 + 13 * k + 7) = 0 ∨ τ (11 + 13 * k + 7) = 1) := dOK_0 ((gd_g h).2.2 k hk.1 hk.2)
theorem gd_k (h : GD N τ) (hk : 0 ≤ k ∧ k < τ 7) : (0 ≤ τ (11 + 13 * k + 11) ∧ τ (11 + 13 * k + 11) ≤ τ (11 + 13 * k + 3)) ∧ (0 ≤ τ (11 + 13 * k + 12) ∧ τ (11 + 13 * k + 12) ≤ τ (11 + 13 * k + 4)) ∧ τ (11 + 13 * k + 3) + τ (11 + 13 * k + 4) ≤ 13 * τ 6 ∧ (0 ≤ τ (11 + 13 * k + 5) ∧ τ (11 + 13 * k + 5) ≤ 48000 * τ 6) ∧ (1 ≤ τ (11 + 13 * k + 6) ∧ τ (11 + 13 * k + 6) ≤ τ 10) := by
  obtain ⟨-, ⟨σ, h1, h2, h3⟩, h4⟩ := h
  have e7 : τ 7 = σ 7 := h3.lo (by decide) (by decide)
  have hk2 : 0 ≤ k ∧ k < σ 7 := by omega
  have q := h1.2.2.2.2.2.2 k hk2.1 hk2.2
  unfold kOK at q
  have q6 := h4 k hk.1 hk.2
  rw [LE_m h3 hk2 (by decide), LE_m h3 hk2 (by decide), LE_m h3 hk2 (by decide), LE_m h3 hk2 (by decide), LE_m h3 hk2 (by decide), h3.lo (i := 6) (by decide) (by decide), h3.ten]
  rw [LE_m h3 hk2 (by decide)] at q6
  rw [LE_m h3 hk2 (by decide)]
  exact ⟨q.1, q.2.1, q.2.2.1, q.2.2.2.1, q6, q.2.2.2.2.2⟩
theorem gd_0 (h : GD N τ) (hk : 0 ≤ k ∧ k < τ 7) : (k = 0 ∧ τ (11 + 13 * k + 0) = -6) ∨ (1 ≤ k ∧ 0 ≤ τ (11 + 13 * k + 0) ∧ τ (11 + 13 * k + 0) < k) := by
  have hg := gd_g h
  obtain ⟨-, ⟨σ, h1, h2, h3⟩, h4⟩ := h
  have e7 : τ 7 = σ 7 := h3.lo (by decide) (by decide)
  by_cases q : k = 0
  · left
    subst q
    exact ⟨rfl, h3.2 (by omega)⟩
  · right
    have := hg.1.2.2.1 k (by omega) hk.2
    rw [Int.add_zero]
    exact ⟨by omega, this⟩
theorem gd_l (h : GD N τ) (hk : 0 ≤ k ∧ k < τ 8) : (0 ≤ τ (102 + 3 * k + 0) ∧ τ (102 + 3 * k + 0) < τ 7) ∧ (1 ≤ τ (102 + 3 * k + 1) ∧ τ (102 + 3 * k + 1) ≤ 4000) ∧ (τ (102 + 3 * k + 2) = 0 ∨ τ (102 + 3 * k + 2) = 1) := by
  have q := (gd_g h).1.2.2.2 k hk.1 hk.2
  rw [Int.add_zero]
  exact q
theorem gd_u (h : GD N τ) (hk : 0 ≤ k ∧ k < τ 7) : uOK (mrec τ k) := by
  obtain ⟨-, ⟨σ, h1, h2, h3⟩, h4⟩ := h
  exact uOK_of h3 h1 (by rw [← h3.lo (i := 7) (by decide) (by decide)]; exact hk)
theorem gd_w (h : GD N τ) (hk : 0 ≤ k ∧ k < τ 7) : 0 ≤ owS (mrec τ k) τ ∧ owS (mrec τ k) τ < 2147483648 := by
  obtain ⟨-, ⟨σ, h1, h2, h3⟩, h4⟩ := h
  have hk2 : 0 ≤ k ∧ k < σ 7 := by rw [← h3.lo (i := 7) (by decide) (by decide)]; exact hk
  have q := bill_rng h1 hk2
  rw [LE_bill h3 hk2]
  omega
end GDS
def wkA (τ : Int → Int) (k : Int) : Int := if τ (11 + 13 * k + 2) < 160 then max 1 (τ 3 - τ (11 + 13 * k + 9)) else -6
def wtA (τ : Int → Int) (k w nt : Int) : Int := miN (mrec τ k) (sset τ) (cpow τ k) (τ 6) w.toNat (if nt = 1 then 4 else 3) - τ (11 + 13 * k + (if nt = 1 then 4 else 3))
def tinA (τ : Int → Int) (k : Int) : Int := mtR (mrec τ k) (sset τ) (cpow τ k) (τ 6) 3000 0
def pasA (τ : Int → Int) (w : Int) : Int := elT τ w.toNat (τ 7).toNat
def msA (τ : Int → Int) (k : Int) : Int := msM (mrec τ k) + 10000000000
def bilA (τ : Int → Int) (k : Int) : Int := owS (mrec τ k) τ
def lagA (τ : Int → Int) (k : Int) : Int := tbC τ k (τ 7 - k - 1).toNat - trn τ k + 10000000
def worA (τ : Int → Int) : Int := if τ 7 = 0 then -6 else mmC τ (τ 7 - 1).toNat
def wrA (τ : Int → Int) (k : Int) : Int := wrL (τ (11 + 13 * k + 3)) (τ (11 + 13 * k + 4)) (τ (11 + 13 * k + 6)) (τ (11 + 13 * k + 7))
def wrD (τ pd : Int → Int) (k : Int) : Int → Int := wrP pd (τ (11 + 13 * k + 3)) (τ (11 + 13 * k + 4)) (τ (11 + 13 * k + 6)) (τ (11 + 13 * k + 7))
theorem set_rng {N : Int} {τ : Int → Int} {k : Int} (h : GD N τ) (hk : 0 ≤ k ∧ k ≤ 5) : 0 ≤ τ k ∧ τ k < 2147483648 := by
  have q := gd_s h
  rcases (show k = 0 ∨ k = 1 ∨ k = 2 ∨ k = 3 ∨ k = 4 ∨ k = 5 by omega) with z | z | z | z | z | z <;> subst z <;> omega
theorem trn_1 {x : Int} (h : x = 0 ∨ x = 1) : (if x = 0 then (1 : Int) else 0) = 1 - x := by split <;> omega
theorem f5_rng {N : Int} {τ : Int → Int} {k : Int} (h : GD N τ) (hk : 0 ≤ k ∧ k < τ 7) : 0 ≤ τ (11 + 13 * k + 5) ∧ τ (11 + 13 * k + 5) < 1000000000000 := by
  have q := gd_k h hk
  have q6 := gd_6 h
  omega
theorem of_8 {N : Int} {τ : Int → Int} {k : Int} (h : GD N τ) (hk : 0 ≤ k ∧ k < τ 7) : ofC τ k 8 = τ (11 + 13 * k + 7) := by
  have q := (gd_m h hk).2.2.2
  show (if τ (11 + 13 * k + 7) = 0 then (0 : Int) else 1) = _
  split <;> omega
theorem ol_2 {N : Int} {τ : Int → Int} {k : Int} (h : GD N τ) (hk : 0 ≤ k ∧ k < τ 8) : olC τ k 2 = τ (102 + 3 * k + 2) := by
  have q := (gd_l h hk).2.2
  show (if τ (102 + 3 * k + 2) = 0 then (0 : Int) else 1) = _
  split <;> omega
theorem p_of (l : Launch) (D : va_G) (cs : Nat → ClassId) (a : Int → Nat) (τ : Int → Int) (pd : Int → Int) (ln : Int) (k : Int) (w : Int) {N : Int} (hG : GD N τ) (hk : 0 ≤ k ∧ k < τ 7) (hw : -2147483648 ≤ w ∧ w < 2147483648) : kR D cs l yX6_of wsX6_of ({ frames := 3, cells := 0, slots := 0, locals := 68 } : Room) [.ref (a 0), .int (zI k), .int (zI w)] (PW D cs a τ pd ln) (some (.int (zI (ofC τ k w)))) :=
  kR_ex fun x hx => c_X6_of_ok l D cs a τ x.1 x.2.1 x.2.2.1 pd ln x.2.2.2.1 x.2.2.2.2.1 x.2.2.2.2.2 k w (gd_g hG) hk hw (f5_rng hG hk)
theorem p_of_0 (l : Launch) (D : va_G) (cs : Nat → ClassId) (a : Int → Nat) (τ : Int → Int) (pd : Int → Int) (ln : Int) (k : Int) {N : Int} (hG : GD N τ) (hk : 0 ≤ k ∧ k < τ 7) : kR D cs l yX6_of wsX6_of ({ frames := 3, cells := 0, slots := 0, locals := 68 } : Room) [.ref (a 0), .int (zI k), .int (zI 0)] (PW D cs a τ pd ln) (some (.int (zI (τ (11 + 13 * k + 0))))) := p_of l D cs a τ pd ln k 0 hG hk (by decide)
theorem p_of_1 (l : Launch) (D : va_G) (cs : Nat → ClassId) (a : Int → Nat) (τ : Int → Int) (pd : Int → Int) (ln : Int) (k : Int) {N : Int} (hG : GD N τ) (hk : 0 ≤ k ∧ k < τ 7) : kR D cs l yX6_of wsX6_of ({ frames := 3, cells := 0, slots := 0, locals := 68 } : Room) [.ref (a 0), .int (zI k), .int (zI 1)] (PW D cs a τ pd ln) (some (.int (zI (cpow τ k)))) := p_of l D cs a τ pd ln k 1 hG hk (by decide)
theorem p_of_2 (l : Launch) (D : va_G) (cs : Nat → ClassId) (a : Int → Nat) (τ : Int → Int) (pd : Int → Int) (ln : Int) (k : Int) {N : Int} (hG : GD N τ) (hk : 0 ≤ k ∧ k < τ 7) : kR D cs l yX6_of wsX6_of ({ frames := 3, cells := 0, slots := 0, locals := 68 } : Room) [.ref (a 0), .int (zI k), .int (zI 2)] (PW D cs a τ pd ln) (some (.int (zI (τ (11 + 13 * k + 1))))) := p_of l D cs a τ pd ln k 2 hG hk (by decide)
theorem p_of_3 (l : Launch) (D : va_G) (cs : Nat → ClassId) (a : Int → Nat) (τ : Int → Int) (pd : Int → Int) (ln : Int) (k : Int) {N : Int} (hG : GD N τ) (hk : 0 ≤ k ∧ k < τ 7) : kR D cs l yX6_of wsX6_of ({ frames := 3, cells := 0, slots := 0, locals := 68 } : Room) [.ref (a 0), .int (zI k), .int (zI 3)] (PW D cs a τ pd ln) (some (.int (zI (τ (11 + 13 * k + 2))))) := p_of l D cs a τ pd ln k 3 hG hk (by decide)
theorem p_of_4 (l : Launch) (D : va_G) (cs : Nat → ClassId) (a : Int → Nat) (τ : Int → Int) (pd : Int → Int) (ln : Int) (k : Int) {N : Int} (hG : GD N τ) (hk : 0 ≤ k ∧ k < τ 7) : kR D cs l yX6_of wsX6_of ({ frames := 3, cells := 0, slots := 0, locals := 68 } : Room) [.ref (a 0), .int (zI k), .int (zI 4)] (PW D cs a τ pd ln) (some (.int (zI (τ (11 + 13 * k + 3))))) := p_of l D cs a τ pd ln k 4 hG hk (by decide)
theorem p_of_5 (l : Launch) (D : va_G) (cs : Nat → ClassId) (a : Int → Nat) (τ : Int → Int) (pd : Int → Int) (ln : Int) (k : Int) {N : Int} (hG : GD N τ) (hk : 0 ≤ k ∧ k < τ 7) : kR D cs l yX6_of wsX6_of ({ frames := 3, cells := 0, slots := 0, locals := 68 } : Room) [.ref (a 0), .int (zI k), .int (zI 5)] (PW D cs a τ pd ln) (some (.int (zI (τ (11 + 13 * k + 4))))) := p_of l D cs a τ pd ln k 5 hG hk (by decide)
theorem p_of_7 (l : Launch) (D : va_G) (cs : Nat → ClassId) (a : Int → Nat) (τ : Int → Int) (pd : Int → Int) (ln : Int) (k : Int) {N : Int} (hG : GD N τ) (hk : 0 ≤ k ∧ k < τ 7) : kR D cs l yX6_of wsX6_of ({ frames := 3, cells := 0, slots := 0, locals := 68 } : Room) [.ref (a 0), .int (zI k), .int (zI 7)] (PW D cs a τ pd ln) (some (.int (zI (τ (11 + 13 * k + 6))))) := p_of l D cs a τ pd ln k 7 hG hk (by decide)
theorem p_of_8 (l : Launch) (D : va_G) (cs : Nat → ClassId) (a : Int → Nat) (τ : Int → Int) (pd : Int → Int) (ln : Int) (k : Int) {N : Int} (hG : GD N τ) (hk : 0 ≤ k ∧ k < τ 7) : kR D cs l yX6_of wsX6_of ({ frames := 3, cells := 0, slots := 0, locals := 68 } : Room) [.ref (a 0), .int (zI k), .int (zI 8)] (PW D cs a τ pd ln) (some (.int (zI (τ (11 + 13 * k + 7))))) := by
  have h := p_of l D cs a τ pd ln k 8 hG hk (by decide)
  rw [of_8 hG hk] at h
  exact h
theorem p_of_9 (l : Launch) (D : va_G) (cs : Nat → ClassId) (a : Int → Nat) (τ : Int → Int) (pd : Int → Int) (ln : Int) (k : Int) {N : Int} (hG : GD N τ) (hk : 0 ≤ k ∧ k < τ 7) : kR D cs l yX6_of wsX6_of ({ frames := 3, cells := 0, slots := 0, locals := 68 } : Room) [.ref (a 0), .int (zI k), .int (zI 9)] (PW D cs a τ pd ln) (some (.int (zI (τ (11 + 13 * k + 8))))) := p_of l D cs a τ pd ln k 9 hG hk (by decide)
theorem p_of_10 (l : Launch) (D : va_G) (cs : Nat → ClassId) (a : Int → Nat) (τ : Int → Int) (pd : Int → Int) (ln : Int) (k : Int) {N : Int} (hG : GD N τ) (hk : 0 ≤ k ∧ k < τ 7) : kR D cs l yX6_of wsX6_of ({ frames := 3, cells := 0, slots := 0, locals := 68 } : Room) [.ref (a 0), .int (zI k), .int (zI 10)] (PW D cs a τ pd ln) (some (.int (zI (wkA τ k)))) := p_of l D cs a τ pd ln k 10 hG hk (by decide)
theorem p_of_11 (l : Launch) (D : va_G) (cs : Nat → ClassId) (a : Int → Nat) (τ : Int → Int) (pd : Int → Int) (ln : Int) (k : Int) {N : Int} (hG : GD N τ) (hk : 0 ≤ k ∧ k < τ 7) : kR D cs l yX6_of wsX6_of ({ frames := 3, cells := 0, slots := 0, locals := 68 } : Room) [.ref (a 0), .int (zI k), .int (zI 11)] (PW D cs a τ pd ln) (some (.int (zI (τ (11 + 13 * k + 10))))) := p_of l D cs a τ pd ln k 11 hG hk (by decide)
theorem p_of_bad (l : Launch) (D : va_G) (cs : Nat → ClassId) (a : Int → Nat) (τ : Int → Int) (pd : Int → Int) (ln : Int) (k : Int) (w : Int) {N : Int} (hG : GD N τ) (hk : -2147483648 ≤ k ∧ k < 2147483648) (hn : ¬ (0 ≤ k ∧ k < τ 7)) : kR D cs l yX6_of wsX6_of ({ frames := 3, cells := 0, slots := 0, locals := 68 } : Room) [.ref (a 0), .int (zI k), .int (zI w)] (PW D cs a τ pd ln) (some (.int (zI (-1)))) :=
  kR_ex fun x hx => c_X6_of_bad l D cs a τ x.1 x.2.1 x.2.2.1 pd ln x.2.2.2.1 x.2.2.2.2.1 x.2.2.2.2.2 k w (gd_g hG) hk hn
theorem p_ofLoad (l : Launch) (D : va_G) (cs : Nat → ClassId) (a : Int → Nat) (τ : Int → Int) (pd : Int → Int) (ln : Int) (k : Int) (w : Int) {N : Int} (hG : GD N τ) (hk : 0 ≤ k ∧ k < τ 8) (hw : -2147483648 ≤ w ∧ w < 2147483648) : kR D cs l yX6_ofLoad wsX6_ofLoad ({ frames := 1, cells := 0, slots := 0, locals := 21 } : Room) [.ref (a 0), .int (zI k), .int (zI w)] (PW D cs a τ pd ln) (some (.int (zI (olC τ k w)))) :=
  kR_ex fun x hx => c_X6_ofLoad_ok l D cs a τ x.1 x.2.1 x.2.2.1 pd ln x.2.2.2.1 x.2.2.2.2.1 x.2.2.2.2.2 k w (gd_g hG) hk hw
theorem p_ofLoad_0 (l : Launch) (D : va_G) (cs : Nat → ClassId) (a : Int → Nat) (τ : Int → Int) (pd : Int → Int) (ln : Int) (k : Int) {N : Int} (hG : GD N τ) (hk : 0 ≤ k ∧ k < τ 8) : kR D cs l yX6_ofLoad wsX6_ofLoad ({ frames := 1, cells := 0, slots := 0, locals := 21 } : Room) [.ref (a 0), .int (zI k), .int (zI 0)] (PW D cs a τ pd ln) (some (.int (zI (τ (102 + 3 * k + 0))))) := p_ofLoad l D cs a τ pd ln k 0 hG hk (by decide)
theorem p_ofLoad_1 (l : Launch) (D : va_G) (cs : Nat → ClassId) (a : Int → Nat) (τ : Int → Int) (pd : Int → Int) (ln : Int) (k : Int) {N : Int} (hG : GD N τ) (hk : 0 ≤ k ∧ k < τ 8) : kR D cs l yX6_ofLoad wsX6_ofLoad ({ frames := 1, cells := 0, slots := 0, locals := 21 } : Room) [.ref (a 0), .int (zI k), .int (zI 1)] (PW D cs a τ pd ln) (some (.int (zI (τ (102 + 3 * k + 1))))) := p_ofLoad l D cs a τ pd ln k 1 hG hk (by decide)
theorem p_ofLoad_2 (l : Launch) (D : va_G) (cs : Nat → ClassId) (a : Int → Nat) (τ : Int → Int) (pd : Int → Int) (ln : Int) (k : Int) {N : Int} (hG : GD N τ) (hk : 0 ≤ k ∧ k < τ 8) : kR D cs l yX6_ofLoad wsX6_ofLoad ({ frames := 1, cells := 0, slots := 0, locals := 21 } : Room) [.ref (a 0), .int (zI k), .int (zI 2)] (PW D cs a τ pd ln) (some (.int (zI (τ (102 + 3 * k + 2))))) := by
  have h := p_ofLoad l D cs a τ pd ln k 2 hG hk (by decide)
  rw [ol_2 hG hk] at h
  exact h
theorem p_ofLoad_bad (l : Launch) (D : va_G) (cs : Nat → ClassId) (a : Int → Nat) (τ : Int → Int) (pd : Int → Int) (ln : Int) (k : Int) (w : Int) {N : Int} (hG : GD N τ) (hk : -2147483648 ≤ k ∧ k < 2147483648) (hn : ¬ (0 ≤ k ∧ k < τ 8)) : kR D cs l yX6_ofLoad wsX6_ofLoad ({ frames := 1, cells := 0, slots := 0, locals := 21 } : Room) [.ref (a 0), .int (zI k), .int (zI w)] (PW D cs a τ pd ln) (some (.int (zI (-1)))) :=
  kR_ex fun x hx => c_X6_ofLoad_bad l D cs a τ x.1 x.2.1 x.2.2.1 pd ln x.2.2.2.1 x.2.2.2.2.1 x.2.2.2.2.2 k w (gd_g hG) hk hn
theorem p_count_0 (l : Launch) (D : va_G) (cs : Nat → ClassId) (a : Int → Nat) (τ : Int → Int) (pd : Int → Int) (ln : Int)  {N : Int} (hG : GD N τ) : kR D cs l yX6_count wsX6_count ({ frames := 2, cells := 0, slots := 0, locals := 42 } : Room) [.ref (a 0), .int (zI 0)] (PW D cs a τ pd ln) (some (.int (zI (τ 6)))) :=
  kR_ex fun x hx => c_X6_count l D cs a τ x.1 x.2.1 x.2.2.1 pd ln x.2.2.2.1 x.2.2.2.2.1 x.2.2.2.2.2 0 (gd_g hG) (by decide)
theorem p_count_1 (l : Launch) (D : va_G) (cs : Nat → ClassId) (a : Int → Nat) (τ : Int → Int) (pd : Int → Int) (ln : Int)  {N : Int} (hG : GD N τ) : kR D cs l yX6_count wsX6_count ({ frames := 2, cells := 0, slots := 0, locals := 42 } : Room) [.ref (a 0), .int (zI 1)] (PW D cs a τ pd ln) (some (.int (zI (ngt (τ 6))))) :=
  kR_ex fun x hx => c_X6_count l D cs a τ x.1 x.2.1 x.2.2.1 pd ln x.2.2.2.1 x.2.2.2.2.1 x.2.2.2.2.2 1 (gd_g hG) (by decide)
theorem p_count_2 (l : Launch) (D : va_G) (cs : Nat → ClassId) (a : Int → Nat) (τ : Int → Int) (pd : Int → Int) (ln : Int)  {N : Int} (hG : GD N τ) : kR D cs l yX6_count wsX6_count ({ frames := 2, cells := 0, slots := 0, locals := 42 } : Room) [.ref (a 0), .int (zI 2)] (PW D cs a τ pd ln) (some (.int (zI (τ 7)))) :=
  kR_ex fun x hx => c_X6_count l D cs a τ x.1 x.2.1 x.2.2.1 pd ln x.2.2.2.1 x.2.2.2.2.1 x.2.2.2.2.2 2 (gd_g hG) (by decide)
theorem p_count_3 (l : Launch) (D : va_G) (cs : Nat → ClassId) (a : Int → Nat) (τ : Int → Int) (pd : Int → Int) (ln : Int)  {N : Int} (hG : GD N τ) : kR D cs l yX6_count wsX6_count ({ frames := 2, cells := 0, slots := 0, locals := 42 } : Room) [.ref (a 0), .int (zI 3)] (PW D cs a τ pd ln) (some (.int (zI (τ 8)))) :=
  kR_ex fun x hx => c_X6_count l D cs a τ x.1 x.2.1 x.2.2.1 pd ln x.2.2.2.1 x.2.2.2.2.1 x.2.2.2.2.2 3 (gd_g hG) (by decide)
theorem p_count_4 (l : Launch) (D : va_G) (cs : Nat → ClassId) (a : Int → Nat) (τ : Int → Int) (pd : Int → Int) (ln : Int)  {N : Int} (hG : GD N τ) : kR D cs l yX6_count wsX6_count ({ frames := 2, cells := 0, slots := 0, locals := 42 } : Room) [.ref (a 0), .int (zI 4)] (PW D cs a τ pd ln) (some (.int (zI (onC τ (τ 8).toNat)))) :=
  kR_ex fun x hx => c_X6_count l D cs a τ x.1 x.2.1 x.2.2.1 pd ln x.2.2.2.1 x.2.2.2.2.1 x.2.2.2.2.2 4 (gd_g hG) (by decide)
theorem p_count_5 (l : Launch) (D : va_G) (cs : Nat → ClassId) (a : Int → Nat) (τ : Int → Int) (pd : Int → Int) (ln : Int)  {N : Int} (hG : GD N τ) : kR D cs l yX6_count wsX6_count ({ frames := 2, cells := 0, slots := 0, locals := 42 } : Room) [.ref (a 0), .int (zI 5)] (PW D cs a τ pd ln) (some (.int (zI (brC τ (τ 7).toNat)))) :=
  kR_ex fun x hx => c_X6_count l D cs a τ x.1 x.2.1 x.2.2.1 pd ln x.2.2.2.1 x.2.2.2.2.1 x.2.2.2.2.2 5 (gd_g hG) (by decide)
theorem p_count_6 (l : Launch) (D : va_G) (cs : Nat → ClassId) (a : Int → Nat) (τ : Int → Int) (pd : Int → Int) (ln : Int)  {N : Int} (hG : GD N τ) : kR D cs l yX6_count wsX6_count ({ frames := 2, cells := 0, slots := 0, locals := 42 } : Room) [.ref (a 0), .int (zI 6)] (PW D cs a τ pd ln) (some (.int (zI (trS τ (τ 7).toNat)))) :=
  kR_ex fun x hx => c_X6_count l D cs a τ x.1 x.2.1 x.2.2.1 pd ln x.2.2.2.1 x.2.2.2.2.1 x.2.2.2.2.2 6 (gd_g hG) (by decide)
theorem p_count_7 (l : Launch) (D : va_G) (cs : Nat → ClassId) (a : Int → Nat) (τ : Int → Int) (pd : Int → Int) (ln : Int)  {N : Int} (hG : GD N τ) : kR D cs l yX6_count wsX6_count ({ frames := 2, cells := 0, slots := 0, locals := 42 } : Room) [.ref (a 0), .int (zI 7)] (PW D cs a τ pd ln) (some (.int (zI (blC τ (τ 7).toNat)))) :=
  kR_ex fun x hx => c_X6_count l D cs a τ x.1 x.2.1 x.2.2.1 pd ln x.2.2.2.1 x.2.2.2.2.1 x.2.2.2.2.2 7 (gd_g hG) (by decide)
theorem p_count_8 (l : Launch) (D : va_G) (cs : Nat → ClassId) (a : Int → Nat) (τ : Int → Int) (pd : Int → Int) (ln : Int)  {N : Int} (hG : GD N τ) : kR D cs l yX6_count wsX6_count ({ frames := 2, cells := 0, slots := 0, locals := 42 } : Room) [.ref (a 0), .int (zI 8)] (PW D cs a τ pd ln) (some (.int (zI (τ 10)))) :=
  kR_ex fun x hx => c_X6_count l D cs a τ x.1 x.2.1 x.2.2.1 pd ln x.2.2.2.1 x.2.2.2.2.1 x.2.2.2.2.2 8 (gd_g hG) (by decide)
theorem p_count_9 (l : Launch) (D : va_G) (cs : Nat → ClassId) (a : Int → Nat) (τ : Int → Int) (pd : Int → Int) (ln : Int)  {N : Int} (hG : GD N τ) : kR D cs l yX6_count wsX6_count ({ frames := 2, cells := 0, slots := 0, locals := 42 } : Room) [.ref (a 0), .int (zI 9)] (PW D cs a τ pd ln) (some (.int (zI (τ 0)))) :=
  kR_ex fun x hx => c_X6_count l D cs a τ x.1 x.2.1 x.2.2.1 pd ln x.2.2.2.1 x.2.2.2.2.1 x.2.2.2.2.2 9 (gd_g hG) (by decide)
theorem p_count_10 (l : Launch) (D : va_G) (cs : Nat → ClassId) (a : Int → Nat) (τ : Int → Int) (pd : Int → Int) (ln : Int)  {N : Int} (hG : GD N τ) : kR D cs l yX6_count wsX6_count ({ frames := 2, cells := 0, slots := 0, locals := 42 } : Room) [.ref (a 0), .int (zI 10)] (PW D cs a τ pd ln) (some (.int (zI (τ 1)))) :=
  kR_ex fun x hx => c_X6_count l D cs a τ x.1 x.2.1 x.2.2.1 pd ln x.2.2.2.1 x.2.2.2.2.1 x.2.2.2.2.2 10 (gd_g hG) (by decide)
theorem p_count_11 (l : Launch) (D : va_G) (cs : Nat → ClassId) (a : Int → Nat) (τ : Int → Int) (pd : Int → Int) (ln : Int)  {N : Int} (hG : GD N τ) : kR D cs l yX6_count wsX6_count ({ frames := 2, cells := 0, slots := 0, locals := 42 } : Room) [.ref (a 0), .int (zI 11)] (PW D cs a τ pd ln) (some (.int (zI (τ 2)))) :=
  kR_ex fun x hx => c_X6_count l D cs a τ x.1 x.2.1 x.2.2.1 pd ln x.2.2.2.1 x.2.2.2.2.1 x.2.2.2.2.2 11 (gd_g hG) (by decide)
theorem p_count_12 (l : Launch) (D : va_G) (cs : Nat → ClassId) (a : Int → Nat) (τ : Int → Int) (pd : Int → Int) (ln : Int)  {N : Int} (hG : GD N τ) : kR D cs l yX6_count wsX6_count ({ frames := 2, cells := 0, slots := 0, locals := 42 } : Room) [.ref (a 0), .int (zI 12)] (PW D cs a τ pd ln) (some (.int (zI (τ 3)))) :=
  kR_ex fun x hx => c_X6_count l D cs a τ x.1 x.2.1 x.2.2.1 pd ln x.2.2.2.1 x.2.2.2.2.1 x.2.2.2.2.2 12 (gd_g hG) (by decide)
theorem p_count_13 (l : Launch) (D : va_G) (cs : Nat → ClassId) (a : Int → Nat) (τ : Int → Int) (pd : Int → Int) (ln : Int)  {N : Int} (hG : GD N τ) : kR D cs l yX6_count wsX6_count ({ frames := 2, cells := 0, slots := 0, locals := 42 } : Room) [.ref (a 0), .int (zI 13)] (PW D cs a τ pd ln) (some (.int (zI (τ 4)))) :=
  kR_ex fun x hx => c_X6_count l D cs a τ x.1 x.2.1 x.2.2.1 pd ln x.2.2.2.1 x.2.2.2.2.1 x.2.2.2.2.2 13 (gd_g hG) (by decide)
theorem p_count_14 (l : Launch) (D : va_G) (cs : Nat → ClassId) (a : Int → Nat) (τ : Int → Int) (pd : Int → Int) (ln : Int)  {N : Int} (hG : GD N τ) : kR D cs l yX6_count wsX6_count ({ frames := 2, cells := 0, slots := 0, locals := 42 } : Room) [.ref (a 0), .int (zI 14)] (PW D cs a τ pd ln) (some (.int (zI (τ 5)))) :=
  kR_ex fun x hx => c_X6_count l D cs a τ x.1 x.2.1 x.2.2.1 pd ln x.2.2.2.1 x.2.2.2.2.1 x.2.2.2.2.2 14 (gd_g hG) (by decide)
theorem p_count_17 (l : Launch) (D : va_G) (cs : Nat → ClassId) (a : Int → Nat) (τ : Int → Int) (pd : Int → Int) (ln : Int)  {N : Int} (hG : GD N τ) : kR D cs l yX6_count wsX6_count ({ frames := 2, cells := 0, slots := 0, locals := 42 } : Room) [.ref (a 0), .int (zI 17)] (PW D cs a τ pd ln) (some (.int (zI (-2)))) :=
  kR_ex fun x hx => c_X6_count l D cs a τ x.1 x.2.1 x.2.2.1 pd ln x.2.2.2.1 x.2.2.2.2.1 x.2.2.2.2.2 17 (gd_g hG) (by decide)
theorem cnt_set {τ : Int → Int} {kp ln v : Int} (hv : 0 ≤ v ∧ v ≤ 5) : cntC τ kp ln (9 + v) = τ v := by
  rcases (show v = 0 ∨ v = 1 ∨ v = 2 ∨ v = 3 ∨ v = 4 ∨ v = 5 by omega) with h | h | h | h | h | h <;> subst h <;> rfl
theorem p_count_s (l : Launch) (D : va_G) (cs : Nat → ClassId) (a : Int → Nat) (τ : Int → Int) (pd : Int → Int) (ln : Int) (v : Int) {N : Int} (hG : GD N τ) (hv : 0 ≤ v ∧ v ≤ 5) : kR D cs l yX6_count wsX6_count ({ frames := 2, cells := 0, slots := 0, locals := 42 } : Room) [.ref (a 0), .int (zI (9 + v))] (PW D cs a τ pd ln) (some (.int (zI (τ v)))) :=
  kR_ex fun x hx => by
    have h := c_X6_count l D cs a τ x.1 x.2.1 x.2.2.1 pd ln x.2.2.2.1 x.2.2.2.2.1 x.2.2.2.2.2 (9 + v) (gd_g hG) (by omega)
    rw [cnt_set hv] at h
    exact h
theorem p_misses (l : Launch) (D : va_G) (cs : Nat → ClassId) (a : Int → Nat) (τ : Int → Int) (pd : Int → Int) (ln : Int) (k : Int) {N : Int} (hG : GD N τ) (hk : 0 ≤ k ∧ k < τ 7) : kR D cs l yX6_misses wsX6_misses ({ frames := 2, cells := 0, slots := 0, locals := 40 } : Room) [.ref (a 0), .int (zI k)] (PW D cs a τ pd ln) (some (.long (zL (msA τ k)))) :=
  kR_ex fun x hx => c_X6_misses_ok l D cs a τ x.1 x.2.1 x.2.2.1 pd ln x.2.2.2.1 x.2.2.2.2.1 x.2.2.2.2.2 k (gd_g hG) hk (gd_u hG hk)
theorem p_misses_bad (l : Launch) (D : va_G) (cs : Nat → ClassId) (a : Int → Nat) (τ : Int → Int) (pd : Int → Int) (ln : Int) (k : Int) {N : Int} (hG : GD N τ) (hk : -2147483648 ≤ k ∧ k < 2147483648) (hn : ¬ (0 ≤ k ∧ k < τ 7)) : kR D cs l yX6_misses wsX6_misses ({ frames := 2, cells := 0, slots := 0, locals := 40 } : Room) [.ref (a 0), .int (zI k)] (PW D cs a τ pd ln) (some (.long (zL (-1)))) :=
  kR_ex fun x hx => c_X6_misses_bad l D cs a τ x.1 x.2.1 x.2.2.1 pd ln x.2.2.2.1 x.2.2.2.2.1 x.2.2.2.2.2 k (gd_g hG) hk hn
theorem p_fed (l : Launch) (D : va_G) (cs : Nat → ClassId) (a : Int → Nat) (τ : Int → Int) (pd : Int → Int) (ln : Int) (k : Int) {N : Int} (hG : GD N τ) (hk : 0 ≤ k ∧ k < τ 7) : kR D cs l yX6_fed wsX6_fed ({ frames := 2, cells := 0, slots := 0, locals := 44 } : Room) [.ref (a 0), .int (zI k)] (PW D cs a τ pd ln) (some (.int (zI (fedC τ k)))) :=
  kR_ex fun x hx => c_X6_fed_ok l D cs a τ x.1 x.2.1 x.2.2.1 pd ln x.2.2.2.1 x.2.2.2.2.1 x.2.2.2.2.2 k (gd_g hG) hk
theorem p_fed_bad (l : Launch) (D : va_G) (cs : Nat → ClassId) (a : Int → Nat) (τ : Int → Int) (pd : Int → Int) (ln : Int) (k : Int) {N : Int} (hG : GD N τ) (hk : -2147483648 ≤ k ∧ k < 2147483648) (hn : ¬ (0 ≤ k ∧ k < τ 7)) : kR D cs l yX6_fed wsX6_fed ({ frames := 2, cells := 0, slots := 0, locals := 44 } : Room) [.ref (a 0), .int (zI k)] (PW D cs a τ pd ln) (some (.int (zI (-1)))) :=
  kR_ex fun x hx => c_X6_fed_bad l D cs a τ x.1 x.2.1 x.2.2.1 pd ln x.2.2.2.1 x.2.2.2.2.1 x.2.2.2.2.2 k (gd_g hG) hk hn
theorem p_bill (l : Launch) (D : va_G) (cs : Nat → ClassId) (a : Int → Nat) (τ : Int → Int) (pd : Int → Int) (ln : Int) (k : Int) {N : Int} (hG : GD N τ) (hk : 0 ≤ k ∧ k < τ 7) : kR D cs l yX6_bill wsX6_bill ({ frames := 2, cells := 0, slots := 0, locals := 41 } : Room) [.ref (a 0), .int (zI k)] (PW D cs a τ pd ln) (some (.int (zI (bilA τ k)))) :=
  kR_ex fun x hx => c_X6_bill_ok l D cs a τ x.1 x.2.1 x.2.2.1 pd ln x.2.2.2.1 x.2.2.2.2.1 x.2.2.2.2.2 k (gd_g hG) hk
theorem p_worst (l : Launch) (D : va_G) (cs : Nat → ClassId) (a : Int → Nat) (τ : Int → Int) (pd : Int → Int) (ln : Int)  {N : Int} (hG : GD N τ) : kR D cs l yX6_worst wsX6_worst ({ frames := 3, cells := 0, slots := 0, locals := 62 } : Room) [.ref (a 0)] (PW D cs a τ pd ln) (some (.int (zI (worA τ)))) :=
  kR_ex fun x hx => c_X6_worst l D cs a τ x.1 x.2.1 x.2.2.1 pd ln x.2.2.2.1 x.2.2.2.2.1 x.2.2.2.2.2 (gd_g hG) (fun j h0 h1 => gd_u hG ⟨h0, h1⟩)
theorem p_lags (l : Launch) (D : va_G) (cs : Nat → ClassId) (a : Int → Nat) (τ : Int → Int) (pd : Int → Int) (ln : Int) (k : Int) {N : Int} (hG : GD N τ) (hk : 0 ≤ k ∧ k < τ 7) : kR D cs l yX6_lags wsX6_lags ({ frames := 2, cells := 0, slots := 0, locals := 43 } : Room) [.ref (a 0), .int (zI k)] (PW D cs a τ pd ln) (some (.int (zI (lagA τ k)))) :=
  kR_ex fun x hx => c_X6_lags_ok l D cs a τ x.1 x.2.1 x.2.2.1 pd ln x.2.2.2.1 x.2.2.2.2.1 x.2.2.2.2.2 k (gd_g hG) hk
theorem p_lags_bad (l : Launch) (D : va_G) (cs : Nat → ClassId) (a : Int → Nat) (τ : Int → Int) (pd : Int → Int) (ln : Int) (k : Int) {N : Int} (hG : GD N τ) (hk : -2147483648 ≤ k ∧ k < 2147483648) (hn : ¬ (0 ≤ k ∧ k < τ 7)) : kR D cs l yX6_lags wsX6_lags ({ frames := 2, cells := 0, slots := 0, locals := 43 } : Room) [.ref (a 0), .int (zI k)] (PW D cs a τ pd ln) (some (.int (zI (-1)))) :=
  kR_ex fun x hx => c_X6_lags_bad l D cs a τ x.1 x.2.1 x.2.2.1 pd ln x.2.2.2.1 x.2.2.2.2.1 x.2.2.2.2.2 k (gd_g hG) hk hn
theorem p_sign (l : Launch) (D : va_G) (cs : Nat → ClassId) (a : Int → Nat) (τ : Int → Int) (pd : Int → Int) (ln : Int) (k : Int) (hl0 : 0 ≤ ln ∧ ln ≤ 80) (hk : -2147483648 ≤ k ∧ k < 2147483648) : kR D cs l yX6_sign wsX6_sign ({ frames := 1, cells := 0, slots := 0, locals := 21 } : Room) [.ref (a 0), .int (zI k)] (PW D cs a τ pd ln) (some (.int (zI (sgA pd ln k)))) :=
  kR_ex fun x hx => c_X6_sign l D cs a τ x.1 x.2.1 x.2.2.1 pd ln x.2.2.2.1 x.2.2.2.2.1 x.2.2.2.2.2 k hl0 hk
theorem p_fault (l : Launch) (D : va_G) (cs : Nat → ClassId) (a : Int → Nat) (τ : Int → Int) (pd : Int → Int) (ln : Int)  (hl0 : 0 ≤ ln ∧ ln ≤ 80) (hp0 : ∀ i : Int, 0 ≤ i → i < ln → 0 ≤ pd i ∧ pd i < 65536) : kR D cs l yX6_fault wsX6_fault ({ frames := 3, cells := 0, slots := 0, locals := 64 } : Room) [.ref (a 0)] (PW D cs a τ pd ln) (some (.int (zI (fO pd ln ln.toNat 0 1)))) :=
  kR_ex fun x hx => c_X6_fault l D cs a τ x.1 x.2.1 x.2.2.1 pd ln x.2.2.2.1 x.2.2.2.2.1 x.2.2.2.2.2 hl0 hp0
theorem p_write_bad (l : Launch) (D : va_G) (cs : Nat → ClassId) (a : Int → Nat) (τ : Int → Int) (pd : Int → Int) (ln : Int) (k : Int) {N : Int} (hG : GD N τ) (hk : -2147483648 ≤ k ∧ k < 2147483648) (hn : ¬ (0 ≤ k ∧ k < τ 7)) : kR D cs l yX6_write wsX6_write ({ frames := 1, cells := 0, slots := 0, locals := 24 } : Room) [.ref (a 0), .int (zI k)] (PW D cs a τ pd ln) (some (.int (zI (-1)))) :=
  kR_ex fun x hx => c_X6_write_bad l D cs a τ x.1 x.2.1 x.2.2.1 pd ln x.2.2.2.1 x.2.2.2.2.1 x.2.2.2.2.2 k (gd_g hG) hk hn
theorem p_set (l : Launch) (D : va_G) (cs : Nat → ClassId) (a : Int → Nat) (τ : Int → Int) (pd : Int → Int) (ln : Int) (k : Int) (v : Int) (M : Nat) {N : Int} (hG : GD N τ) (hI : eI a) (hs : setOK k v) (hN : ∀ q, eC a q → M ≤ q) : kMz D cs M l yX6_set wsX6_set ({ frames := 3, cells := 0, slots := 0, locals := 64 } : Room) [.ref (a 0), .int (zI k), .int (zI v)] (PW D cs a τ pd ln) (some (.int (zI (τ k)))) (PW D cs a (up τ k v) pd ln) (eC a) :=
  kMz_ex (fun x hx => c_X6_set_ok l D cs a τ x.1 x.2.1 x.2.2.1 pd ln x.2.2.2.1 x.2.2.2.2.1 x.2.2.2.2.2 k v M hI hx.1 (gd_g hG) (by have := hs.1; omega) (by have := hs.2; have := loS_rng k; have := hiS_rng k; omega) hx.2 hs (set_rng hG hs.1) hN) (fun x H hx h => PW_mk h (by have := hx.1; omega) (by have := hx.2; omega))
theorem p_set_bad (l : Launch) (D : va_G) (cs : Nat → ClassId) (a : Int → Nat) (τ : Int → Int) (pd : Int → Int) (ln : Int) (k : Int) (v : Int) (M : Nat) {N : Int} (hG : GD N τ) (hI : eI a) (hk : -2147483648 ≤ k ∧ k < 2147483648) (hvr : -2147483648 ≤ v ∧ v < 2147483648) (hs : ¬ setOK k v) (hN : ∀ q, eC a q → M ≤ q) : kMz D cs M l yX6_set wsX6_set ({ frames := 3, cells := 0, slots := 0, locals := 64 } : Room) [.ref (a 0), .int (zI k), .int (zI v)] (PW D cs a τ pd ln) (some (.int (zI (-2)))) (PW D cs a τ pd ln) (eC a) :=
  kMz_ex (fun x hx => c_X6_set_bad l D cs a τ x.1 x.2.1 x.2.2.1 pd ln x.2.2.2.1 x.2.2.2.2.1 x.2.2.2.2.2 k v M hI hx.1 (gd_g hG) hk hvr hs hN) (fun x H hx h => PW_mk h hx.1 hx.2)
theorem p_meter (l : Launch) (D : va_G) (cs : Nat → ClassId) (a : Int → Nat) (τ : Int → Int) (pd : Int → Int) (ln : Int) (k : Int) {N : Int} (hG : GD N τ) (hI : eI a) (hk : -2147483648 ≤ k ∧ k < 2147483648) (hw : wnM τ k = 0) : kM D cs l yX6_meter wsX6_meter ({ frames := 3, cells := 0, slots := 0, locals := 64 } : Room) [.ref (a 0), .int (zI k)] (PW D cs a τ pd ln) (some (.int (zI (τ 7)))) (PW D cs a (amF τ k) pd ln) (eC a) :=
  kM_ex (fun x hx => c_X6_meter_ok l D cs a τ x.1 x.2.1 x.2.2.1 pd ln x.2.2.2.1 x.2.2.2.2.1 x.2.2.2.2.2 k hI hx.1 (gd_g hG) hk hx.2 hw) (fun x H hx h => PW_mk h (by have := hx.1; omega) (by have := hx.2; omega))
theorem p_meter_bad (l : Launch) (D : va_G) (cs : Nat → ClassId) (a : Int → Nat) (τ : Int → Int) (pd : Int → Int) (ln : Int) (k : Int) {N : Int} (hG : GD N τ) (hI : eI a) (hk : -2147483648 ≤ k ∧ k < 2147483648) (hw : wnM τ k < 0) : kM D cs l yX6_meter wsX6_meter ({ frames := 3, cells := 0, slots := 0, locals := 64 } : Room) [.ref (a 0), .int (zI k)] (PW D cs a τ pd ln) (some (.int (zI (wnM τ k)))) (PW D cs a τ pd ln) (eC a) :=
  kM_ex (fun x hx => c_X6_meter_bad l D cs a τ x.1 x.2.1 x.2.2.1 pd ln x.2.2.2.1 x.2.2.2.2.1 x.2.2.2.2.2 k hI hx.1 (gd_g hG) hk hw) (fun x H hx h => PW_mk h hx.1 hx.2)
theorem p_load (l : Launch) (D : va_G) (cs : Nat → ClassId) (a : Int → Nat) (τ : Int → Int) (pd : Int → Int) (ln : Int) (k : Int) (w : Int) {N : Int} (hG : GD N τ) (hI : eI a) (hk : -2147483648 ≤ k ∧ k < 2147483648) (hwr : -2147483648 ≤ w ∧ w < 2147483648) (hw : wnL τ k w = 0) : kM D cs l yX6_load wsX6_load ({ frames := 3, cells := 0, slots := 0, locals := 64 } : Room) [.ref (a 0), .int (zI k), .int (zI w)] (PW D cs a τ pd ln) (some (.int (zI (τ 8)))) (PW D cs a (alF τ k w) pd ln) (eC a) :=
  kM_ex (fun x hx => c_X6_load_ok l D cs a τ x.1 x.2.1 x.2.2.1 pd ln x.2.2.2.1 x.2.2.2.2.1 x.2.2.2.2.2 k w hI hx.1 (gd_g hG) hk hwr hx.2 hw) (fun x H hx h => PW_mk h (by have := hx.1; omega) (by have := hx.2; omega))
theorem p_load_bad (l : Launch) (D : va_G) (cs : Nat → ClassId) (a : Int → Nat) (τ : Int → Int) (pd : Int → Int) (ln : Int) (k : Int) (w : Int) {N : Int} (hG : GD N τ) (hI : eI a) (hk : -2147483648 ≤ k ∧ k < 2147483648) (hwr : -2147483648 ≤ w ∧ w < 2147483648) (hw : wnL τ k w < 0) : kM D cs l yX6_load wsX6_load ({ frames := 3, cells := 0, slots := 0, locals := 64 } : Room) [.ref (a 0), .int (zI k), .int (zI w)] (PW D cs a τ pd ln) (some (.int (zI (wnL τ k w)))) (PW D cs a τ pd ln) (eC a) :=
  kM_ex (fun x hx => c_X6_load_bad l D cs a τ x.1 x.2.1 x.2.2.1 pd ln x.2.2.2.1 x.2.2.2.2.1 x.2.2.2.2.2 k w hI hx.1 (gd_g hG) hk hwr hw) (fun x H hx h => PW_mk h hx.1 hx.2)
theorem p_turn (l : Launch) (D : va_G) (cs : Nat → ClassId) (a : Int → Nat) (τ : Int → Int) (pd : Int → Int) (ln : Int) (k : Int) {N : Int} (hG : GD N τ) (hI : eI a) (hk : 0 ≤ k ∧ k < τ 8) : kM D cs l yX6_turn wsX6_turn ({ frames := 3, cells := 0, slots := 0, locals := 64 } : Room) [.ref (a 0), .int (zI k)] (PW D cs a τ pd ln) (some (.int (zI (1 - τ (102 + 3 * k + 2))))) (PW D cs a (swF τ k) pd ln) (eC a) :=
  kM_ex (fun x hx => (by have h := c_X6_turn_ok l D cs a τ x.1 x.2.1 x.2.2.1 pd ln x.2.2.2.1 x.2.2.2.2.1 x.2.2.2.2.2 k hI hx.1 (gd_g hG) (by have := gd_8 hG; omega) hx.2 hk (gd_l hG hk).2.2; rw [trn_1 (gd_l hG hk).2.2] at h; exact h)) (fun x H hx h => PW_mk h (by have := hx.1; omega) (by have := hx.2; omega))
theorem p_turn_bad (l : Launch) (D : va_G) (cs : Nat → ClassId) (a : Int → Nat) (τ : Int → Int) (pd : Int → Int) (ln : Int) (k : Int) {N : Int} (hG : GD N τ) (hI : eI a) (hk : -2147483648 ≤ k ∧ k < 2147483648) (hn : ¬ (0 ≤ k ∧ k < τ 8)) : kM D cs l yX6_turn wsX6_turn ({ frames := 3, cells := 0, slots := 0, locals := 64 } : Room) [.ref (a 0), .int (zI k)] (PW D cs a τ pd ln) (some (.int (zI (-1)))) (PW D cs a τ pd ln) (eC a) :=
  kM_ex (fun x hx => c_X6_turn_bad l D cs a τ x.1 x.2.1 x.2.2.1 pd ln x.2.2.2.1 x.2.2.2.2.1 x.2.2.2.2.2 k hI hx.1 (gd_g hG) hk hn) (fun x H hx h => PW_mk h hx.1 hx.2)
theorem p_tamper (l : Launch) (D : va_G) (cs : Nat → ClassId) (a : Int → Nat) (τ : Int → Int) (pd : Int → Int) (ln : Int) (k : Int) {N : Int} (hG : GD N τ) (hI : eI a) (hw : wnT τ k = 0) : kM D cs l yX6_tamper wsX6_tamper ({ frames := 3, cells := 0, slots := 0, locals := 64 } : Room) [.ref (a 0), .int (zI k)] (PW D cs a τ pd ln) (some (.int (zI (τ (11 + 13 * k + 6))))) (PW D cs a (bsF τ k) pd ln) (eC a) :=
  kM_ex (fun x hx => c_X6_tamper_ok l D cs a τ x.1 x.2.1 x.2.2.1 pd ln x.2.2.2.1 x.2.2.2.2.1 x.2.2.2.2.2 k hI hx.1 (gd_g hG) (by have := gd_7 hG; have := wnT_0 hw; omega) (fun h0 h1 => (gd_m hG ⟨h0, h1⟩).2.2.2) hx.2 hw (by have q := gd_k hG (wnT_0 hw).1; have q2 := gd_10 hG; have q3 := hG.1; omega)) (fun x H hx h => PW_mk h (by have := hx.1; omega) (by have := hx.2; omega))
theorem p_tamper_bad (l : Launch) (D : va_G) (cs : Nat → ClassId) (a : Int → Nat) (τ : Int → Int) (pd : Int → Int) (ln : Int) (k : Int) {N : Int} (hG : GD N τ) (hI : eI a) (hk : -2147483648 ≤ k ∧ k < 2147483648) (hw : wnT τ k < 0) : kM D cs l yX6_tamper wsX6_tamper ({ frames := 3, cells := 0, slots := 0, locals := 64 } : Room) [.ref (a 0), .int (zI k)] (PW D cs a τ pd ln) (some (.int (zI (wnT τ k)))) (PW D cs a τ pd ln) (eC a) :=
  kM_ex (fun x hx => c_X6_tamper_bad l D cs a τ x.1 x.2.1 x.2.2.1 pd ln x.2.2.2.1 x.2.2.2.2.1 x.2.2.2.2.2 k hI hx.1 (gd_g hG) hk (fun h0 h1 => (gd_m hG ⟨h0, h1⟩).2.2.2) hw) (fun x H hx h => PW_mk h hx.1 hx.2)
theorem p_visit (l : Launch) (D : va_G) (cs : Nat → ClassId) (a : Int → Nat) (τ : Int → Int) (pd : Int → Int) (ln : Int) (k : Int) {N : Int} (hG : GD N τ) (hI : eI a) (hk : 0 ≤ k ∧ k < τ 7) : kM D cs l yX6_visit wsX6_visit ({ frames := 3, cells := 0, slots := 0, locals := 64 } : Room) [.ref (a 0), .int (zI k)] (PW D cs a τ pd ln) (some (.int (zI (bilA τ k)))) (PW D cs a (inF τ k) pd ln) (eC a) :=
  kM_ex (fun x hx => c_X6_visit_ok l D cs a τ x.1 x.2.1 x.2.2.1 pd ln x.2.2.2.1 x.2.2.2.2.1 x.2.2.2.2.2 k hI hx.1 (gd_g hG) (by have := gd_7 hG; omega) hx.2 hk (gd_w hG hk)) (fun x H hx h => PW_mk h (by have := hx.1; omega) (by have := hx.2; omega))
theorem p_visit_bad (l : Launch) (D : va_G) (cs : Nat → ClassId) (a : Int → Nat) (τ : Int → Int) (pd : Int → Int) (ln : Int) (k : Int) {N : Int} (hG : GD N τ) (hI : eI a) (hk : -2147483648 ≤ k ∧ k < 2147483648) (hn : ¬ (0 ≤ k ∧ k < τ 7)) : kM D cs l yX6_visit wsX6_visit ({ frames := 3, cells := 0, slots := 0, locals := 64 } : Room) [.ref (a 0), .int (zI k)] (PW D cs a τ pd ln) (some (.int (zI (-1)))) (PW D cs a τ pd ln) (eC a) :=
  kM_ex (fun x hx => c_X6_visit_bad l D cs a τ x.1 x.2.1 x.2.2.1 pd ln x.2.2.2.1 x.2.2.2.2.1 x.2.2.2.2.2 k hI hx.1 (gd_g hG) hk hn) (fun x H hx h => PW_mk h hx.1 hx.2)
theorem p_pass (l : Launch) (D : va_G) (cs : Nat → ClassId) (a : Int → Nat) (τ : Int → Int) (pd : Int → Int) (ln : Int) (w : Int) {N : Int} (hG : GD N τ) (hI : eI a) (hw : wnP τ w = 0) : kM D cs l yX6_pass wsX6_pass ({ frames := 5, cells := 0, slots := 0, locals := 121 } : Room) [.ref (a 0), .int (zI w)] (PW D cs a τ pd ln) (some (.int (zI (pasA τ w)))) (PW D cs a (elF τ w) pd ln) (eC a) :=
  kM_ex (fun x hx => c_X6_pass_ok l D cs a τ x.1 x.2.1 x.2.2.1 pd ln x.2.2.2.1 x.2.2.2.2.1 x.2.2.2.2.2 w hI hx.1 (gd_g hG) (by have := wnP_0 hw; omega) hx.2 hw (elT_rng (gd_g hG) (by have := wnP_0 hw; omega))) (fun x H hx h => PW_mk h (by have := hx.1; omega) (by have := hx.2; omega))
theorem p_pass_bad (l : Launch) (D : va_G) (cs : Nat → ClassId) (a : Int → Nat) (τ : Int → Int) (pd : Int → Int) (ln : Int) (w : Int) {N : Int} (hG : GD N τ) (hI : eI a) (hwr : -2147483648 ≤ w ∧ w < 2147483648) (hw : wnP τ w < 0) : kM D cs l yX6_pass wsX6_pass ({ frames := 5, cells := 0, slots := 0, locals := 121 } : Room) [.ref (a 0), .int (zI w)] (PW D cs a τ pd ln) (some (.int (zI (wnP τ w)))) (PW D cs a τ pd ln) (eC a) :=
  kM_ex (fun x hx => c_X6_pass_bad l D cs a τ x.1 x.2.1 x.2.2.1 pd ln x.2.2.2.1 x.2.2.2.2.1 x.2.2.2.2.2 w hI hx.1 (gd_g hG) hwr hw) (fun x H hx h => PW_mk h hx.1 hx.2)
theorem p_write (l : Launch) (D : va_G) (cs : Nat → ClassId) (a : Int → Nat) (τ : Int → Int) (pd : Int → Int) (ln : Int) (k : Int) {N : Int} (hG : GD N τ) (hI : eI a) (hk : 0 ≤ k ∧ k < τ 7) : kM D cs l yX6_write wsX6_write ({ frames := 1, cells := 0, slots := 0, locals := 24 } : Room) [.ref (a 0), .int (zI k)] (PW D cs a τ pd ln) (some (.int (zI (wrA τ k)))) (PW D cs a τ (wrD τ pd k) (wrA τ k)) (eC a) :=
  kM_ex (fun x hx => c_X6_write_ok l D cs a τ x.1 x.2.1 x.2.2.1 pd ln x.2.2.2.1 x.2.2.2.2.1 x.2.2.2.2.2 k hI (gd_g hG) hk (by have q := gd_k hG hk; have := gd_6 hG; omega) (by have q := gd_k hG hk; have := gd_6 hG; omega) (by have q := gd_k hG hk; have := gd_10 hG; have := hG.1; omega) (gd_m hG hk).2.2.2) (fun x H hx h => PW_mk h hx.1 hx.2)
theorem p_turnsIn (l : Launch) (D : va_G) (cs : Nat → ClassId) (a : Int → Nat) (τ : Int → Int) (pd : Int → Int) (ln : Int) (k : Int) {N : Int} (hG : GD N τ) (hI : eI a) (hk : 0 ≤ k ∧ k < τ 7) : kM D cs l yX6_turnsIn wsX6_turnsIn ({ frames := 4, cells := 0, slots := 0, locals := 93 } : Room) [.ref (a 0), .int (zI k)] (PW D cs a τ pd ln) (some (.int (zI (tinA τ k)))) (PW D cs a τ pd ln) (eC a) :=
  kM_ex (fun x hx => c_X6_turnsIn_ok l D cs a τ x.1 x.2.1 x.2.2.1 pd ln x.2.2.2.1 x.2.2.2.2.1 x.2.2.2.2.2 k hI (gd_g hG) hk) (fun x H hx h => PW_mk h hx.1 hx.2)
theorem p_wouldTurn_0 (l : Launch) (D : va_G) (cs : Nat → ClassId) (a : Int → Nat) (τ : Int → Int) (pd : Int → Int) (ln : Int) (k : Int) (w : Int) {N : Int} (hG : GD N τ) (hI : eI a) (hk : 0 ≤ k ∧ k < τ 7) (hw : 1 ≤ w ∧ w ≤ 1440) : kM D cs l yX6_wouldTurn wsX6_wouldTurn ({ frames := 4, cells := 0, slots := 0, locals := 98 } : Room) [.ref (a 0), .int (zI k), .int (zI w), .int (zI 0)] (PW D cs a τ pd ln) (some (.int (zI (wtA τ k w 0)))) (PW D cs a τ pd ln) (eC a) :=
  kM_ex (fun x hx => c_X6_wouldTurn_ok l D cs a τ x.1 x.2.1 x.2.2.1 pd ln x.2.2.2.1 x.2.2.2.2.1 x.2.2.2.2.2 k w 0 hI (gd_g hG) hk hw (by decide)) (fun x H hx h => PW_mk h hx.1 hx.2)
theorem p_wouldTurn_1 (l : Launch) (D : va_G) (cs : Nat → ClassId) (a : Int → Nat) (τ : Int → Int) (pd : Int → Int) (ln : Int) (k : Int) (w : Int) {N : Int} (hG : GD N τ) (hI : eI a) (hk : 0 ≤ k ∧ k < τ 7) (hw : 1 ≤ w ∧ w ≤ 1440) : kM D cs l yX6_wouldTurn wsX6_wouldTurn ({ frames := 4, cells := 0, slots := 0, locals := 98 } : Room) [.ref (a 0), .int (zI k), .int (zI w), .int (zI 1)] (PW D cs a τ pd ln) (some (.int (zI (wtA τ k w 1)))) (PW D cs a τ pd ln) (eC a) :=
  kM_ex (fun x hx => c_X6_wouldTurn_ok l D cs a τ x.1 x.2.1 x.2.2.1 pd ln x.2.2.2.1 x.2.2.2.2.1 x.2.2.2.2.2 k w 1 hI (gd_g hG) hk hw (by decide)) (fun x H hx h => PW_mk h hx.1 hx.2)
theorem p_wipe (l : Launch) (D : va_G) (cs : Nat → ClassId) (a : Int → Nat) (τ : Int → Int) (pd : Int → Int) (ln : Int)  (hI : eI a) : kM D cs l yX6_wipe wsX6_wipe ({ frames := 1, cells := 0, slots := 0, locals := 20 } : Room) [.ref (a 0)] (PW D cs a τ pd ln) (some (.int (zI (ln)))) (PW D cs a τ pd 0) (eC a) :=
  kM_ex (fun x hx => c_X6_wipe l D cs a τ x.1 x.2.1 x.2.2.1 pd ln x.2.2.2.1 x.2.2.2.2.1 x.2.2.2.2.2 hI) (fun x H hx h => PW_mk h hx.1 hx.2)
