/-! a call of the law: class and reference side by side -/
theorem stp_in {τ : Int → Int} {k i : Int} (hk : 0 ≤ k) (h : i < 138) : stp τ k i = τ i := (up_n (by omega)).trans (pOne_n (by omega))
theorem tiS_lo {k i : Int} (hk : 0 ≤ k) (h : i < 138) : ∀ (f : Nat) (τ : Int → Int), tiS k f τ i = τ i := by
  intro f
  induction f with
  | zero => intro τ; rfl
  | succ f ih =>
    intro τ
    show (if 0 < pOneP τ 138 k / 6000 then stp τ k else tiS k f (stp τ k)) i = τ i
    split
    · exact stp_in hk h
    · rw [ih]; exact stp_in hk h
theorem wtS_lo {τ : Int → Int} {k i : Int} (hk : 0 ≤ k) (h : i < 138) : ∀ n : Nat, wtS τ k n i = τ i := by
  intro n
  induction n with
  | zero => rfl
  | succ n ih => exact (stp_in hk h).trans ih
theorem tiS_in {σ : Int → Int} {k : Int} {f : Nat} (hk : 0 ≤ k) : ∀ i : Int, 0 ≤ i → i < 138 → tiS k f (cpN σ σ 138 138) i = σ i := fun i a b => (tiS_lo hk b f _).trans (cpN_out (by omega))
theorem wtS_in {σ : Int → Int} {k : Int} (hk : 0 ≤ k) (n : Nat) : ∀ i : Int, 0 ≤ i → i < 138 → wtS (cpN σ σ 138 138) k n i = σ i := fun i a b => (wtS_lo hk b n).trans (cpN_out (by omega))
theorem Met_mono {l : Launch} {y : MethodName} {ws : List Cond} {rm : Room} {P P2 : Array Value → State → Prop} {Q Q2 : Array Value → State → Outcome → State → Prop} {mc ms : Nat} {free free2 : Addr → Prop} (h : Met l y ws rm P Q mc ms free) (hP : ∀ a s, P2 a s → P a s) (hQ : ∀ a s o t, P2 a s → Q a s o t → Q2 a s o t) (hF : ∀ q, free q → free2 q) : Met l y ws rm P2 Q2 mc ms free2 := by
  intro p e h1 h2 h3 s m args below h4 h5 h6 h7
  obtain ⟨n, o, a1, a2, a3, a4, L, a5, a6⟩ := h p e h1 h2 h3 s m args below h4 h5 (hP _ _ h6) h7
  exact ⟨n, o, a1, a2, a3, hQ _ _ _ _ h6 a4, L, a5, fun q hq => hF _ (a6 q hq)⟩
theorem kM_z {D : va_G} {cs : Nat → ClassId} {N : Nat} {l : Launch} {y : MethodName} {ws : List Cond} {rm : Room} {as : List Value} {P : Heap → Prop} {v : Option Value} {B : Heap → Prop} {A : Nat → Prop} (h : kM D cs l y ws rm as P v B A) : kMz D cs N l y ws rm as P v B A :=
  Met_mono h (fun a s q => by
    obtain ⟨h1, h2, h3, h4⟩ := q
    exact ⟨h1, h2, h4⟩) (fun a s o t _ q => q) (fun q hq => hq)
theorem kR_M {D : va_G} {cs : Nat → ClassId} {l : Launch} {y : MethodName} {ws : List Cond} {rm : Room} {as : List Value} {P : Heap → Prop} {v : Option Value} {A : Nat → Prop} (h : kR D cs l y ws rm as P v) : kM D cs l y ws rm as P v P A :=
  Met_mono h (fun a s q => q) (fun a s o t hp q => by
    obtain ⟨h1, h2, h3⟩ := hp
    obtain ⟨q1, q2⟩ := q
    exact ⟨q1, by rw [q2]; exact h3, by rw [q2]; exact Nat.le_refl _, fun z _ _ => by rw [q2]⟩) (fun q hq => hq.elim)
def PRI (l : Launch) (D : va_G) (cs : Nat → ClassId) (Nz : Nat) (a am : Int → Nat) (y1 : MethodName) (ws1 : List Cond) (rm1 : Room) (y2 : MethodName) (ws2 : List Cond) (rm2 : Room) (as : List Value) (V : Int → Value) (N : Int) (σ pa sl sv pd : Int → Int) (kn ln : Int) (τ : Int → Int) (ss hh : Int → Int → Int) (pr pd2 : Int → Int) (ln2 fr kp : Int) (su : Int → Int) : Prop :=
  ∃ (x : Int) (σ' pa' sl' sv' pd' : Int → Int) (kn' ln' : Int) (τ' : Int → Int) (ss' hh' : Int → Int → Int) (pr' pd2' : Int → Int) (ln2' fr' kp' : Int) (su' : Int → Int),
    kMz D cs Nz l y1 ws1 rm1 (.ref (a 0) :: as) (fun H => eAt D cs a τ ss hh pr pd2 ln2 fr kp su H) (some (V x)) (fun H => eAt D cs a τ' ss' hh' pr' pd2' ln2' fr' kp' su' H) (eC a) ∧
    kM D cs l y2 ws2 rm2 (.ref (am 0) :: as) (fun H => mAt D cs am σ pa sl sv pd kn ln H) (some (V x)) (fun H => mAt D cs am σ' pa' sl' sv' pd' kn' ln' H) (mC am) ∧
    REL (N + 100) σ' pa' sl' sv' pd' kn' ln' τ' ss' hh' pd2' ln2' fr' kp' su'
section PP
variable {l : Launch} {D : va_G} {cs : Nat → ClassId} {Nz : Nat} {a am : Int → Nat} {y1 : MethodName} {ws1 : List Cond} {rm1 : Room} {y2 : MethodName} {ws2 : List Cond} {rm2 : Room} {as : List Value} {V : Int → Value} {N M : Int} {σ pa sl sv pd : Int → Int} {kn ln : Int} {τ : Int → Int} {ss hh : Int → Int → Int} {pr pd2 : Int → Int} {ln2 fr kp : Int} {su : Int → Int}
variable {σ' pa' sl' sv' pd' : Int → Int} {kn' ln' : Int} {τ' : Int → Int} {ss' hh' : Int → Int → Int} {pr' pd2' : Int → Int} {ln2' fr' kp' : Int} {su' : Int → Int}
theorem REL_mono (h : REL N σ pa sl sv pd kn ln τ ss hh pd2 ln2 fr kp su) (hm : N ≤ M) : REL M σ pa sl sv pd kn ln τ ss hh pd2 ln2 fr kp su := ⟨SM_mono h.1 hm, h.2.1, h.2.2.1, HH_mono h.2.2.2.1 hm, SL_mono h.2.2.2.2 hm⟩
theorem PRI_mk {x x2 : Int} (h1 : kMz D cs Nz l y1 ws1 rm1 (.ref (a 0) :: as) (fun H => eAt D cs a τ ss hh pr pd2 ln2 fr kp su H) (some (V x)) (fun H => eAt D cs a τ' ss' hh' pr' pd2' ln2' fr' kp' su' H) (eC a)) (h2 : kM D cs l y2 ws2 rm2 (.ref (am 0) :: as) (fun H => mAt D cs am σ pa sl sv pd kn ln H) (some (V x2)) (fun H => mAt D cs am σ' pa' sl' sv' pd' kn' ln' H) (mC am)) (e : x = x2) (h3 : REL M σ' pa' sl' sv' pd' kn' ln' τ' ss' hh' pd2' ln2' fr' kp' su') (hm : M ≤ N + 100) : PRI l D cs Nz a am y1 ws1 rm1 y2 ws2 rm2 as V N σ pa sl sv pd kn ln τ ss hh pr pd2 ln2 fr kp su := by
  subst e
  exact ⟨x, σ', pa', sl', sv', pd', kn', ln', τ', ss', hh', pr', pd2', ln2', fr', kp', su', h1, h2, REL_mono h3 hm⟩
theorem REL_pre {X : Int → Int} (h : REL N σ pa sl sv pd kn ln τ ss hh pd2 ln2 fr kp su) : REL N σ pa sl sv pd kn ln τ ss (upH hh fr X) pd2 ln2 fr kp su := ⟨h.1, h.2.1, h.2.2.1, HH_pre h.2.2.2.1 h.2.2.1.1.2 h.2.2.1.2.2, h.2.2.2.2⟩
theorem REL_rem (h : REL N σ pa sl sv pd kn ln τ ss hh pd2 ln2 fr kn su) (h2 : SM M σ' τ') (hm : N ≤ M) : REL M σ' (remP σ pa kn) sl sv pd (remK kn) ln τ' ss (upH hh fr (cpH (hh fr) τ)) pd2 ln2 ((fr + 1) % 7) (min 6 (kn + 1)) su :=
  ⟨h2, h.2.1, ⟨remK_rng h.2.2.1.1, remK_min h.2.2.1.1, by have := h.2.2.1.2.2; omega⟩, HH_mono (HH_rem h.2.2.2.1 h.1 h.2.2.1.1 h.2.2.1.2.2) hm, SL_mono h.2.2.2.2 hm⟩
theorem REL_pd (h : REL N σ pa sl sv pd kn ln τ ss hh pd2 ln2 fr kp su) (hp : pOK pd' ln') (hl : ln2' = ln') (hE : PE pd' ln' pd2') : REL N σ pa sl sv pd' kn ln' τ ss hh pd2' ln2' fr kp su := ⟨h.1, ⟨hp, hl, hE⟩, h.2.2⟩
set_option maxHeartbeats 1000000 in
theorem pr_set {k : Int} {v : Int} (h : REL N σ pa sl sv pd kn ln τ ss hh pd2 ln fr kn su) (hI : eI a) (hm : mI am) (hN : ∀ q, eC a q → Nz ≤ q) (hNN : 0 ≤ N ∧ N ≤ 900000) (hk : -2147483648 ≤ k ∧ k < 2147483648) (hv : -2147483648 ≤ v ∧ v < 2147483648) : PRI l D cs Nz a am yX6_set wsX6_set ({ frames := 3, cells := 0, slots := 0, locals := 64 } : Room) yX7_set wsX7_set ({ frames := 1, cells := 0, slots := 0, locals := 22 } : Room) [.int (zI k), .int (zI v)] (fun x => .int (zI x)) N σ pa sl sv pd kn ln τ ss hh pr pd2 ln fr kn su := by
  have hR := h
  obtain ⟨hS, ⟨hp, -, hE⟩, ⟨hkn, -, hfr⟩, hH, hL⟩ := h
  have hF := hS.1
  have hG := hF.1
  have hLE := hS.2.2
  have hg := LE_gOK hLE hG
  have hlo := hG.1
  have e7 : τ 7 = σ 7 := hLE.lo (by decide) (by decide)
  have e8 : τ 8 = σ 8 := hLE.lo (by decide) (by decide)
  have e6 : τ 6 = σ 6 := hLE.lo (by decide) (by decide)
  by_cases hs : setOK k v
  · have ek : τ k = σ k := hLE.lo (by have := hs.1; omega) (by have := hs.1; omega)
    have h0 : 0 ≤ τ k ∧ τ k < 2147483648 := by
      rw [ek]
      obtain ⟨s0, s1, s2, s3, s6⟩ := hG.2.1
      have s4 := hF.2.2.1
      have s5 := hF.2.2.2.1
      have hk5 := hs.1
      rcases (show k = 0 ∨ k = 1 ∨ k = 2 ∨ k = 3 ∨ k = 4 ∨ k = 5 by omega) with q | q | q | q | q | q <;> subst q <;> simp at s0 s1 s2 s3 s6 <;> omega
    exact PRI_mk (c_X6_set_ok l D cs a τ ss hh pr pd2 ln fr kn su k v Nz hI hfr hg hk hv hkn hs h0 hN) (c_X7_set_ok l D cs am σ pa sl sv pd kn ln k v hk hv hs hkn hm) ek (REL_rem hR (SM_set hS hs) (Int.le_refl _)) (by omega)
  · exact PRI_mk (c_X6_set_bad l D cs a τ ss hh pr pd2 ln fr kn su k v Nz hI hfr hg hk hv hs hN) (kR_M (c_X7_set_bad l D cs am σ pa sl sv pd kn ln k v hk hv hs)) rfl (REL_pre hR) (by omega)
set_option maxHeartbeats 1000000 in
theorem pr_meter {k : Int} (h : REL N σ pa sl sv pd kn ln τ ss hh pd2 ln fr kn su) (hI : eI a) (hm : mI am) (hN : ∀ q, eC a q → Nz ≤ q) (hNN : 0 ≤ N ∧ N ≤ 900000) (hk : -2147483648 ≤ k ∧ k < 2147483648) : PRI l D cs Nz a am yX6_meter wsX6_meter ({ frames := 3, cells := 0, slots := 0, locals := 64 } : Room) yX7_meter wsX7_meter ({ frames := 3, cells := 0, slots := 0, locals := 64 } : Room) [.int (zI k)] (fun x => .int (zI x)) N σ pa sl sv pd kn ln τ ss hh pr pd2 ln fr kn su := by
  have hR := h
  obtain ⟨hS, ⟨hp, -, hE⟩, ⟨hkn, -, hfr⟩, hH, hL⟩ := h
  have hF := hS.1
  have hG := hF.1
  have hLE := hS.2.2
  have hg := LE_gOK hLE hG
  have hlo := hG.1
  have e7 : τ 7 = σ 7 := hLE.lo (by decide) (by decide)
  have e8 : τ 8 = σ 8 := hLE.lo (by decide) (by decide)
  have e6 : τ 6 = σ 6 := hLE.lo (by decide) (by decide)
  by_cases hn : wnM σ k = 0
  · exact PRI_mk (kM_z (c_X6_meter_ok l D cs a τ ss hh pr pd2 ln fr kn su k hI hfr hg hk hkn (by rw [LE_wnM hLE]; exact hn))) (c_X7_meter_ok l D cs am σ pa sl sv pd kn ln k hlo.1 hk hn hkn hm) e7 (REL_rem hR (SM_com hS hn) (by omega)) (by omega)
  · have hn2 : wnM σ k < 0 := by
      unfold wnM at hn ⊢
      repeat' split
      all_goals simp_all
    exact PRI_mk (kM_z (c_X6_meter_bad l D cs a τ ss hh pr pd2 ln fr kn su k hI hfr hg hk (by rw [LE_wnM hLE]; exact hn2))) (kR_M (c_X7_meter_bad l D cs am σ pa sl sv pd kn ln k hlo.1 hk hn2)) (LE_wnM hLE k) (REL_pre hR) (by omega)
set_option maxHeartbeats 1000000 in
theorem pr_load {k : Int} {w : Int} (h : REL N σ pa sl sv pd kn ln τ ss hh pd2 ln fr kn su) (hI : eI a) (hm : mI am) (hN : ∀ q, eC a q → Nz ≤ q) (hNN : 0 ≤ N ∧ N ≤ 900000) (hk : -2147483648 ≤ k ∧ k < 2147483648) (hw : -2147483648 ≤ w ∧ w < 2147483648) : PRI l D cs Nz a am yX6_load wsX6_load ({ frames := 3, cells := 0, slots := 0, locals := 64 } : Room) yX7_load wsX7_load ({ frames := 3, cells := 0, slots := 0, locals := 65 } : Room) [.int (zI k), .int (zI w)] (fun x => .int (zI x)) N σ pa sl sv pd kn ln τ ss hh pr pd2 ln fr kn su := by
  have hR := h
  obtain ⟨hS, ⟨hp, -, hE⟩, ⟨hkn, -, hfr⟩, hH, hL⟩ := h
  have hF := hS.1
  have hG := hF.1
  have hLE := hS.2.2
  have hg := LE_gOK hLE hG
  have hlo := hG.1
  have e7 : τ 7 = σ 7 := hLE.lo (by decide) (by decide)
  have e8 : τ 8 = σ 8 := hLE.lo (by decide) (by decide)
  have e6 : τ 6 = σ 6 := hLE.lo (by decide) (by decide)
  by_cases hn : wnL σ k w = 0
  · exact PRI_mk (kM_z (c_X6_load_ok l D cs a τ ss hh pr pd2 ln fr kn su k w hI hfr hg hk hw hkn (by rw [LE_wnL hLE]; exact hn))) (c_X7_load_ok l D cs am σ pa sl sv pd kn ln k w hlo.1 hlo.2.1 hk hw hn hkn hm) e8 (REL_rem hR (SM_ld hS hn) (Int.le_refl _)) (by omega)
  · have hn2 : wnL σ k w < 0 := by
      unfold wnL at hn ⊢
      repeat' split
      all_goals simp_all
    exact PRI_mk (kM_z (c_X6_load_bad l D cs a τ ss hh pr pd2 ln fr kn su k w hI hfr hg hk hw (by rw [LE_wnL hLE]; exact hn2))) (kR_M (c_X7_load_bad l D cs am σ pa sl sv pd kn ln k w hlo.1 hlo.2.1 hk hw hn2)) (LE_wnL hLE k w) (REL_pre hR) (by omega)
set_option maxHeartbeats 1000000 in
theorem pr_turn {k : Int} (h : REL N σ pa sl sv pd kn ln τ ss hh pd2 ln fr kn su) (hI : eI a) (hm : mI am) (hN : ∀ q, eC a q → Nz ≤ q) (hNN : 0 ≤ N ∧ N ≤ 900000) (hk : -2147483648 ≤ k ∧ k < 2147483648) : PRI l D cs Nz a am yX6_turn wsX6_turn ({ frames := 3, cells := 0, slots := 0, locals := 64 } : Room) yX7_turn wsX7_turn ({ frames := 2, cells := 0, slots := 0, locals := 43 } : Room) [.int (zI k)] (fun x => .int (zI x)) N σ pa sl sv pd kn ln τ ss hh pr pd2 ln fr kn su := by
  have hR := h
  obtain ⟨hS, ⟨hp, -, hE⟩, ⟨hkn, -, hfr⟩, hH, hL⟩ := h
  have hF := hS.1
  have hG := hF.1
  have hLE := hS.2.2
  have hg := LE_gOK hLE hG
  have hlo := hG.1
  have e7 : τ 7 = σ 7 := hLE.lo (by decide) (by decide)
  have e8 : τ 8 = σ 8 := hLE.lo (by decide) (by decide)
  have e6 : τ 6 = σ 6 := hLE.lo (by decide) (by decide)
  by_cases hn : 0 ≤ k ∧ k < σ 8
  · have e2 : τ (102 + 3 * k + 2) = σ (102 + 3 * k + 2) := hLE.ld (by omega) (by omega)
    have h01 := (hlo.2.2.2 k hn.1 hn.2).2.2
    exact PRI_mk (kM_z (c_X6_turn_ok l D cs a τ ss hh pr pd2 ln fr kn su k hI hfr hg hk hkn (by rw [e8]; exact hn) (by rw [e2]; exact h01))) (c_X7_turn_ok l D cs am σ pa sl sv pd kn ln k hlo.2.1 hn hkn hm) (by rw [e2]; split <;> omega) (REL_rem hR (SM_tn hS hn) (Int.le_refl _)) (by omega)
  · exact PRI_mk (kM_z (c_X6_turn_bad l D cs a τ ss hh pr pd2 ln fr kn su k hI hfr hg hk (by rw [e8]; exact hn))) (kR_M (c_X7_turn_bad l D cs am σ pa sl sv pd kn ln k hlo.2.1 hk hn)) rfl (REL_pre hR) (by omega)
set_option maxHeartbeats 1000000 in
theorem pr_tamper {k : Int} (h : REL N σ pa sl sv pd kn ln τ ss hh pd2 ln fr kn su) (hI : eI a) (hm : mI am) (hN : ∀ q, eC a q → Nz ≤ q) (hNN : 0 ≤ N ∧ N ≤ 900000) (hk : -2147483648 ≤ k ∧ k < 2147483648) : PRI l D cs Nz a am yX6_tamper wsX6_tamper ({ frames := 3, cells := 0, slots := 0, locals := 64 } : Room) yX7_tamper wsX7_tamper ({ frames := 3, cells := 0, slots := 0, locals := 64 } : Room) [.int (zI k)] (fun x => .int (zI x)) N σ pa sl sv pd kn ln τ ss hh pr pd2 ln fr kn su := by
  have hR := h
  obtain ⟨hS, ⟨hp, -, hE⟩, ⟨hkn, -, hfr⟩, hH, hL⟩ := h
  have hF := hS.1
  have hG := hF.1
  have hLE := hS.2.2
  have hg := LE_gOK hLE hG
  have hlo := hG.1
  have e7 : τ 7 = σ 7 := hLE.lo (by decide) (by decide)
  have e8 : τ 8 = σ 8 := hLE.lo (by decide) (by decide)
  have e6 : τ 6 = σ 6 := hLE.lo (by decide) (by decide)
  have hb : 0 ≤ k → k < σ 7 → σ (11 + 13 * k + 7) = 0 ∨ σ (11 + 13 * k + 7) = 1 := fun p q => (dOK_0 (hG.2.2 k p q)).2.2.2
  have hb2 : 0 ≤ k → k < τ 7 → τ (11 + 13 * k + 7) = 0 ∨ τ (11 + 13 * k + 7) = 1 := fun p q => by
    rw [e7] at q
    rw [LE_m hLE ⟨p, q⟩ (by decide)]; exact hb p q
  by_cases hn : wnT σ k = 0
  · have hk2 : 0 ≤ k ∧ k < σ 7 := by
      unfold wnT at hn
      split at hn
      · omega
      · rename_i q; exact Classical.not_not.mp q
    have e2 := LE_m hLE hk2 (j := 6) (by decide)
    have hs6 := (hF.2.2.2.2.2.2 k hk2.1 hk2.2).2.2.2.2
    have hs10 := hF.2.2.2.2.1
    exact PRI_mk (kM_z (c_X6_tamper_ok l D cs a τ ss hh pr pd2 ln fr kn su k hI hfr hg hk hb2 hkn (by rw [LE_wnT hLE]; exact hn) (by rw [e2]; omega))) (c_X7_tamper_ok l D cs am σ pa sl sv pd kn ln k hlo.1 hk hb hn hkn hm) e2 (REL_rem hR (SM_tp hS hk2) (Int.le_refl _)) (by omega)
  · have hn2 : wnT σ k < 0 := by
      unfold wnT at hn ⊢
      repeat' split
      all_goals simp_all
    exact PRI_mk (kM_z (c_X6_tamper_bad l D cs a τ ss hh pr pd2 ln fr kn su k hI hfr hg hk hb2 (by rw [LE_wnT hLE]; exact hn2))) (kR_M (c_X7_tamper_bad l D cs am σ pa sl sv pd kn ln k hlo.1 hk hb hn2)) (LE_wnT hLE k) (REL_pre hR) (by omega)
set_option maxHeartbeats 1000000 in
theorem pr_visit {k : Int} (h : REL N σ pa sl sv pd kn ln τ ss hh pd2 ln fr kn su) (hI : eI a) (hm : mI am) (hN : ∀ q, eC a q → Nz ≤ q) (hNN : 0 ≤ N ∧ N ≤ 900000) (hk : -2147483648 ≤ k ∧ k < 2147483648) : PRI l D cs Nz a am yX6_visit wsX6_visit ({ frames := 3, cells := 0, slots := 0, locals := 64 } : Room) yX7_visit wsX7_visit ({ frames := 3, cells := 0, slots := 0, locals := 66 } : Room) [.int (zI k)] (fun x => .int (zI x)) N σ pa sl sv pd kn ln τ ss hh pr pd2 ln fr kn su := by
  have hR := h
  obtain ⟨hS, ⟨hp, -, hE⟩, ⟨hkn, -, hfr⟩, hH, hL⟩ := h
  have hF := hS.1
  have hG := hF.1
  have hLE := hS.2.2
  have hg := LE_gOK hLE hG
  have hlo := hG.1
  have e7 : τ 7 = σ 7 := hLE.lo (by decide) (by decide)
  have e8 : τ 8 = σ 8 := hLE.lo (by decide) (by decide)
  have e6 : τ 6 = σ 6 := hLE.lo (by decide) (by decide)
  by_cases hn : 0 ≤ k ∧ k < σ 7
  · have hbr := bill_rng hF hn
    have eb := LE_bill hLE hn
    have hb := (dOK_0 (hG.2.2 k hn.1 hn.2)).2.2.2
    exact PRI_mk (kM_z (c_X6_visit_ok l D cs a τ ss hh pr pd2 ln fr kn su k hI hfr hg hk hkn (by rw [e7]; exact hn) (by rw [eb]; omega))) (c_X7_visit_ok l D cs am σ pa sl sv pd kn ln k hlo.1 hn (by omega) (by rw [show (0 : Int) + 11 = 11 from rfl]; exact hb) hkn hm) eb (REL_rem hR (SM_vs hS hn) (by omega)) (by omega)
  · exact PRI_mk (kM_z (c_X6_visit_bad l D cs a τ ss hh pr pd2 ln fr kn su k hI hfr hg hk (by rw [e7]; exact hn))) (kR_M (c_X7_visit_bad l D cs am σ pa sl sv pd kn ln k hlo.1 hk hn)) rfl (REL_pre hR) (by omega)
set_option maxHeartbeats 1000000 in
theorem pr_pass {w : Int} (h : REL N σ pa sl sv pd kn ln τ ss hh pd2 ln fr kn su) (hI : eI a) (hm : mI am) (hN : ∀ q, eC a q → Nz ≤ q) (hNN : 0 ≤ N ∧ N ≤ 900000) (hw : -2147483648 ≤ w ∧ w < 2147483648) : PRI l D cs Nz a am yX6_pass wsX6_pass ({ frames := 5, cells := 0, slots := 0, locals := 121 } : Room) yX7_pass wsX7_pass ({ frames := 6, cells := 0, slots := 0, locals := 143 } : Room) [.int (zI w)] (fun x => .int (zI x)) N σ pa sl sv pd kn ln τ ss hh pr pd2 ln fr kn su := by
  have hR := h
  obtain ⟨hS, ⟨hp, -, hE⟩, ⟨hkn, -, hfr⟩, hH, hL⟩ := h
  have hF := hS.1
  have hG := hF.1
  have hLE := hS.2.2
  have hg := LE_gOK hLE hG
  have hlo := hG.1
  have e7 : τ 7 = σ 7 := hLE.lo (by decide) (by decide)
  have e8 : τ 8 = σ 8 := hLE.lo (by decide) (by decide)
  have e6 : τ 6 = σ 6 := hLE.lo (by decide) (by decide)
  have h6 := fOK_6 hF
  by_cases hn : wnP σ w = 0
  · have hw2 : 1 ≤ w ∧ w ≤ 1440 ∧ σ 6 + w ≤ 99999 := by
      unfold wnP at hn
      split at hn
      · omega
      · split at hn <;> omega
    have hp2 := LE_pass hLE hF (w := w) (by omega)
    have hr := elT_rng hg (n := w.toNat) (by omega)
    exact PRI_mk (kM_z (c_X6_pass_ok l D cs a τ ss hh pr pd2 ln fr kn su w hI hfr hg hw hkn (by rw [LE_wnP hLE]; exact hn) hr)) (c_X7_pass_ok l D cs am σ pa sl sv pd kn ln w hw hG hn hkn hm) hp2.2 (REL_rem hR (SM_pass hS (by omega)) (Int.le_refl _)) (by omega)
  · have hn2 : wnP σ w < 0 := by
      unfold wnP at hn ⊢
      repeat' split
      all_goals simp_all
    exact PRI_mk (kM_z (c_X6_pass_bad l D cs a τ ss hh pr pd2 ln fr kn su w hI hfr hg hw (by rw [LE_wnP hLE]; exact hn2))) (kR_M (c_X7_pass_bad l D cs am σ pa sl sv pd kn ln w hw (by omega) hn2)) (LE_wnP hLE w) (REL_pre hR) (by omega)
set_option maxHeartbeats 1000000 in
theorem pr_write {k : Int} (h : REL N σ pa sl sv pd kn ln τ ss hh pd2 ln fr kn su) (hI : eI a) (hm : mI am) (hN : ∀ q, eC a q → Nz ≤ q) (hNN : 0 ≤ N ∧ N ≤ 900000) (hk : -2147483648 ≤ k ∧ k < 2147483648) : PRI l D cs Nz a am yX6_write wsX6_write ({ frames := 1, cells := 0, slots := 0, locals := 24 } : Room) yX7_write wsX7_write ({ frames := 2, cells := 0, slots := 0, locals := 43 } : Room) [.int (zI k)] (fun x => .int (zI x)) N σ pa sl sv pd kn ln τ ss hh pr pd2 ln fr kn su := by
  have hR := h
  obtain ⟨hS, ⟨hp, -, hE⟩, ⟨hkn, -, hfr⟩, hH, hL⟩ := h
  have hF := hS.1
  have hG := hF.1
  have hLE := hS.2.2
  have hg := LE_gOK hLE hG
  have hlo := hG.1
  have e7 : τ 7 = σ 7 := hLE.lo (by decide) (by decide)
  have e8 : τ 8 = σ 8 := hLE.lo (by decide) (by decide)
  have e6 : τ 6 = σ 6 := hLE.lo (by decide) (by decide)
  by_cases hn : 0 ≤ k ∧ k < σ 7
  · have e3 := LE_m hLE hn (j := 3) (by decide)
    have e4 := LE_m hLE hn (j := 4) (by decide)
    have e66 := LE_m hLE hn (j := 6) (by decide)
    have e77 := LE_m hLE hn (j := 7) (by decide)
    obtain ⟨m1, m2, m3, m4, m5⟩ := hF.2.2.2.2.2.2 k hn.1 hn.2
    have h6 := fOK_6 hF
    have hs10 := hF.2.2.2.2.1
    have hb := (dOK_0 (hG.2.2 k hn.1 hn.2)).2.2.2
    have hwr := wrL_rng (σ (11 + 13 * k + 3)) (σ (11 + 13 * k + 4)) (σ (11 + 13 * k + 6)) (σ (11 + 13 * k + 7))
    refine PRI_mk (kM_z (c_X6_write_ok l D cs a τ ss hh pr pd2 ln fr kn su k hI hg (by rw [e7]; exact hn) (by rw [e3]; omega) (by rw [e4]; omega) (by rw [e66]; omega) (by rw [e77]; exact hb))) (c_X7_write_ok l D cs am σ pa sl sv pd kn ln k hlo.1 hn (by omega) (by omega) (by omega) hb hm) (by rw [e3, e4, e66, e77]) (REL_pd hR ⟨by omega, CH_wr _ _ _ _ _⟩ (by rw [e3, e4, e66, e77]) ?_) (by omega)
    rw [e3, e4, e66, e77]
    exact PE_wr _ _ _ _ _ _
  · exact PRI_mk (kM_z (kR_M (c_X6_write_bad l D cs a τ ss hh pr pd2 ln fr kn su k hg hk (by rw [e7]; exact hn)))) (kR_M (c_X7_write_bad l D cs am σ pa sl sv pd kn ln k hlo.1 hk hn)) rfl hR (by omega)
set_option maxHeartbeats 1000000 in
theorem pr_sign {k : Int} (h : REL N σ pa sl sv pd kn ln τ ss hh pd2 ln fr kn su) (hI : eI a) (hm : mI am) (hN : ∀ q, eC a q → Nz ≤ q) (hNN : 0 ≤ N ∧ N ≤ 900000) (hk : -2147483648 ≤ k ∧ k < 2147483648) : PRI l D cs Nz a am yX6_sign wsX6_sign ({ frames := 1, cells := 0, slots := 0, locals := 21 } : Room) yX7_sign wsX7_sign ({ frames := 1, cells := 0, slots := 0, locals := 22 } : Room) [.int (zI k)] (fun x => .int (zI x)) N σ pa sl sv pd kn ln τ ss hh pr pd2 ln fr kn su := by
  have hR := h
  obtain ⟨hS, ⟨hp, -, hE⟩, ⟨hkn, -, hfr⟩, hH, hL⟩ := h
  have hF := hS.1
  have hG := hF.1
  have hLE := hS.2.2
  have hg := LE_gOK hLE hG
  have hlo := hG.1
  have e7 : τ 7 = σ 7 := hLE.lo (by decide) (by decide)
  have e8 : τ 8 = σ 8 := hLE.lo (by decide) (by decide)
  have e6 : τ 6 = σ 6 := hLE.lo (by decide) (by decide)
  exact PRI_mk (kM_z (kR_M (c_X6_sign l D cs a τ ss hh pr pd2 ln fr kn su k hp.1 hk))) (kR_M (c_X7_sign l D cs am σ pa sl sv pd kn ln k hk hp.1)) (PE_sg hE k) hR (by omega)
set_option maxHeartbeats 1000000 in
theorem pr_of {k : Int} {w : Int} (h : REL N σ pa sl sv pd kn ln τ ss hh pd2 ln fr kn su) (hI : eI a) (hm : mI am) (hN : ∀ q, eC a q → Nz ≤ q) (hNN : 0 ≤ N ∧ N ≤ 900000) (hk : -2147483648 ≤ k ∧ k < 2147483648) (hw : -2147483648 ≤ w ∧ w < 2147483648) : PRI l D cs Nz a am yX6_of wsX6_of ({ frames := 3, cells := 0, slots := 0, locals := 68 } : Room) yX7_of wsX7_of ({ frames := 4, cells := 0, slots := 0, locals := 90 } : Room) [.int (zI k), .int (zI w)] (fun x => .int (zI x)) N σ pa sl sv pd kn ln τ ss hh pr pd2 ln fr kn su := by
  have hR := h
  obtain ⟨hS, ⟨hp, -, hE⟩, ⟨hkn, -, hfr⟩, hH, hL⟩ := h
  have hF := hS.1
  have hG := hF.1
  have hLE := hS.2.2
  have hg := LE_gOK hLE hG
  have hlo := hG.1
  have e7 : τ 7 = σ 7 := hLE.lo (by decide) (by decide)
  have e8 : τ 8 = σ 8 := hLE.lo (by decide) (by decide)
  have e6 : τ 6 = σ 6 := hLE.lo (by decide) (by decide)
  by_cases hn : 0 ≤ k ∧ k < σ 7
  · obtain ⟨d1, d2, d9, d7⟩ := dOK_0 (hG.2.2 k hn.1 hn.2)
    obtain ⟨m1, m2, m3, m4, m5⟩ := hF.2.2.2.2.2.2 k hn.1 hn.2
    have h6 := fOK_6 hF
    have s3 : 100 ≤ σ 3 ∧ σ 3 ≤ 5000 := hG.2.1.2.2.2.1
    have e5 := LE_m hLE hn (j := 5) (by decide)
    have ht : -1 ≤ σ (11 + 13 * k + 0) ∧ σ (11 + 13 * k + 0) < 7 := by
      rw [show 11 + 13 * k + 0 = 11 + 13 * k by omega]
      by_cases q : k = 0
      · subst q
        have q2 := hF.2.2.2.2.2.1 (by omega)
        rw [show (11 : Int) + 13 * 0 = 11 from rfl, q2]; omega
      · have q2 := hlo.2.2.1 k (by omega) hn.2
        have := hlo.1
        omega
    exact PRI_mk (kM_z (kR_M (c_X6_of_ok l D cs a τ ss hh pr pd2 ln fr kn su k w hg (by rw [e7]; exact hn) hw (by rw [e5]; omega)))) (kR_M (c_X7_of_ok l D cs am σ pa sl sv pd kn ln k w hlo hn hw ht d9 d2 s3 (by rw [show (0 : Int) + 11 = 11 from rfl]; omega))) (LE_of hLE hF hn) hR (by omega)
  · exact PRI_mk (kM_z (kR_M (c_X6_of_bad l D cs a τ ss hh pr pd2 ln fr kn su k w hg hk (by rw [e7]; exact hn)))) (kR_M (c_X7_of_bad l D cs am σ pa sl sv pd kn ln k w hlo.1 hk hn)) rfl hR (by omega)
set_option maxHeartbeats 1000000 in
theorem pr_ofLoad {k : Int} {w : Int} (h : REL N σ pa sl sv pd kn ln τ ss hh pd2 ln fr kn su) (hI : eI a) (hm : mI am) (hN : ∀ q, eC a q → Nz ≤ q) (hNN : 0 ≤ N ∧ N ≤ 900000) (hk : -2147483648 ≤ k ∧ k < 2147483648) (hw : -2147483648 ≤ w ∧ w < 2147483648) : PRI l D cs Nz a am yX6_ofLoad wsX6_ofLoad ({ frames := 1, cells := 0, slots := 0, locals := 21 } : Room) yX7_ofLoad wsX7_ofLoad ({ frames := 2, cells := 0, slots := 0, locals := 43 } : Room) [.int (zI k), .int (zI w)] (fun x => .int (zI x)) N σ pa sl sv pd kn ln τ ss hh pr pd2 ln fr kn su := by
  have hR := h
  obtain ⟨hS, ⟨hp, -, hE⟩, ⟨hkn, -, hfr⟩, hH, hL⟩ := h
  have hF := hS.1
  have hG := hF.1
  have hLE := hS.2.2
  have hg := LE_gOK hLE hG
  have hlo := hG.1
  have e7 : τ 7 = σ 7 := hLE.lo (by decide) (by decide)
  have e8 : τ 8 = σ 8 := hLE.lo (by decide) (by decide)
  have e6 : τ 6 = σ 6 := hLE.lo (by decide) (by decide)
  by_cases hn : 0 ≤ k ∧ k < σ 8
  · exact PRI_mk (kM_z (kR_M (c_X6_ofLoad_ok l D cs a τ ss hh pr pd2 ln fr kn su k w hg (by rw [e8]; exact hn) hw))) (kR_M (c_X7_ofLoad_ok l D cs am σ pa sl sv pd kn ln k w hlo.2.1 hn hw)) (LE_ofLoad hLE hF hn) hR (by omega)
  · exact PRI_mk (kM_z (kR_M (c_X6_ofLoad_bad l D cs a τ ss hh pr pd2 ln fr kn su k w hg hk (by rw [e8]; exact hn)))) (kR_M (c_X7_ofLoad_bad l D cs am σ pa sl sv pd kn ln k w hlo.2.1 hk hn)) rfl hR (by omega)
set_option maxHeartbeats 1000000 in
theorem pr_misses {k : Int} (h : REL N σ pa sl sv pd kn ln τ ss hh pd2 ln fr kn su) (hI : eI a) (hm : mI am) (hN : ∀ q, eC a q → Nz ≤ q) (hNN : 0 ≤ N ∧ N ≤ 900000) (hk : -2147483648 ≤ k ∧ k < 2147483648) : PRI l D cs Nz a am yX6_misses wsX6_misses ({ frames := 2, cells := 0, slots := 0, locals := 40 } : Room) yX7_misses wsX7_misses ({ frames := 3, cells := 0, slots := 0, locals := 64 } : Room) [.int (zI k)] (fun x => .long (zL x)) N σ pa sl sv pd kn ln τ ss hh pr pd2 ln fr kn su := by
  have hR := h
  obtain ⟨hS, ⟨hp, -, hE⟩, ⟨hkn, -, hfr⟩, hH, hL⟩ := h
  have hF := hS.1
  have hG := hF.1
  have hLE := hS.2.2
  have hg := LE_gOK hLE hG
  have hlo := hG.1
  have e7 : τ 7 = σ 7 := hLE.lo (by decide) (by decide)
  have e8 : τ 8 = σ 8 := hLE.lo (by decide) (by decide)
  have e6 : τ 6 = σ 6 := hLE.lo (by decide) (by decide)
  by_cases hn : 0 ≤ k ∧ k < σ 7
  · exact PRI_mk (V := fun x => .long (zL x)) (kM_z (kR_M (c_X6_misses_ok l D cs a τ ss hh pr pd2 ln fr kn su k hg (by rw [e7]; exact hn) (uOK_of hLE hF hn)))) (kR_M (c_X7_misses_ok l D cs am σ pa sl sv pd kn ln k hlo.1 hn (mOK_of hF hn))) (LE_ms hLE hn) hR (by omega)
  · exact PRI_mk (V := fun x => .long (zL x)) (kM_z (kR_M (c_X6_misses_bad l D cs a τ ss hh pr pd2 ln fr kn su k hg hk (by rw [e7]; exact hn)))) (kR_M (c_X7_misses_bad l D cs am σ pa sl sv pd kn ln k hlo.1 hk hn)) rfl hR (by omega)
set_option maxHeartbeats 1000000 in
theorem pr_fed {k : Int} (h : REL N σ pa sl sv pd kn ln τ ss hh pd2 ln fr kn su) (hI : eI a) (hm : mI am) (hN : ∀ q, eC a q → Nz ≤ q) (hNN : 0 ≤ N ∧ N ≤ 900000) (hk : -2147483648 ≤ k ∧ k < 2147483648) : PRI l D cs Nz a am yX6_fed wsX6_fed ({ frames := 2, cells := 0, slots := 0, locals := 44 } : Room) yX7_fed wsX7_fed ({ frames := 3, cells := 0, slots := 0, locals := 66 } : Room) [.int (zI k)] (fun x => .int (zI x)) N σ pa sl sv pd kn ln τ ss hh pr pd2 ln fr kn su := by
  have hR := h
  obtain ⟨hS, ⟨hp, -, hE⟩, ⟨hkn, -, hfr⟩, hH, hL⟩ := h
  have hF := hS.1
  have hG := hF.1
  have hLE := hS.2.2
  have hg := LE_gOK hLE hG
  have hlo := hG.1
  have e7 : τ 7 = σ 7 := hLE.lo (by decide) (by decide)
  have e8 : τ 8 = σ 8 := hLE.lo (by decide) (by decide)
  have e6 : τ 6 = σ 6 := hLE.lo (by decide) (by decide)
  by_cases hn : 0 ≤ k ∧ k < σ 7
  · exact PRI_mk (kM_z (kR_M (c_X6_fed_ok l D cs a τ ss hh pr pd2 ln fr kn su k hg (by rw [e7]; exact hn)))) (kR_M (c_X7_fed_ok l D cs am σ pa sl sv pd kn ln k hlo hn)) (LE_fed hLE hlo hn) hR (by omega)
  · exact PRI_mk (kM_z (kR_M (c_X6_fed_bad l D cs a τ ss hh pr pd2 ln fr kn su k hg hk (by rw [e7]; exact hn)))) (kR_M (c_X7_fed_bad l D cs am σ pa sl sv pd kn ln k hlo hk hn)) rfl hR (by omega)
set_option maxHeartbeats 1000000 in
theorem pr_count {w : Int} (h : REL N σ pa sl sv pd kn ln τ ss hh pd2 ln fr kn su) (hI : eI a) (hm : mI am) (hN : ∀ q, eC a q → Nz ≤ q) (hNN : 0 ≤ N ∧ N ≤ 900000) (hw : -2147483648 ≤ w ∧ w < 2147483648) : PRI l D cs Nz a am yX6_count wsX6_count ({ frames := 2, cells := 0, slots := 0, locals := 42 } : Room) yX7_count wsX7_count ({ frames := 4, cells := 0, slots := 0, locals := 87 } : Room) [.int (zI w)] (fun x => .int (zI x)) N σ pa sl sv pd kn ln τ ss hh pr pd2 ln fr kn su := by
  have hR := h
  obtain ⟨hS, ⟨hp, -, hE⟩, ⟨hkn, -, hfr⟩, hH, hL⟩ := h
  have hF := hS.1
  have hG := hF.1
  have hLE := hS.2.2
  have hg := LE_gOK hLE hG
  have hlo := hG.1
  have e7 : τ 7 = σ 7 := hLE.lo (by decide) (by decide)
  have e8 : τ 8 = σ 8 := hLE.lo (by decide) (by decide)
  have e6 : τ 6 = σ 6 := hLE.lo (by decide) (by decide)
  have h6 := fOK_6 hF
  exact PRI_mk (kM_z (kR_M (c_X6_count l D cs a τ ss hh pr pd2 ln fr kn su w hg hw))) (kR_M (c_X7_count l D cs am σ pa sl sv pd kn ln w hw hlo.2.1 hlo.1 (by omega) (fun j p q => (hlo.2.2.2 j p q).2.2) (fun j p q => (dOK_0 (hG.2.2 j p q)).2.2.2))) (LE_cnt hS _ _) hR (by omega)
set_option maxHeartbeats 1000000 in
theorem pr_bill {k : Int} (h : REL N σ pa sl sv pd kn ln τ ss hh pd2 ln fr kn su) (hI : eI a) (hm : mI am) (hN : ∀ q, eC a q → Nz ≤ q) (hNN : 0 ≤ N ∧ N ≤ 900000) (hk : -2147483648 ≤ k ∧ k < 2147483648) : PRI l D cs Nz a am yX6_bill wsX6_bill ({ frames := 2, cells := 0, slots := 0, locals := 41 } : Room) yX7_bill wsX7_bill ({ frames := 2, cells := 0, slots := 0, locals := 43 } : Room) [.int (zI k)] (fun x => .int (zI x)) N σ pa sl sv pd kn ln τ ss hh pr pd2 ln fr kn su := by
  have hR := h
  obtain ⟨hS, ⟨hp, -, hE⟩, ⟨hkn, -, hfr⟩, hH, hL⟩ := h
  have hF := hS.1
  have hG := hF.1
  have hLE := hS.2.2
  have hg := LE_gOK hLE hG
  have hlo := hG.1
  have e7 : τ 7 = σ 7 := hLE.lo (by decide) (by decide)
  have e8 : τ 8 = σ 8 := hLE.lo (by decide) (by decide)
  have e6 : τ 6 = σ 6 := hLE.lo (by decide) (by decide)
  by_cases hn : 0 ≤ k ∧ k < σ 7
  · exact PRI_mk (kM_z (kR_M (c_X6_bill_ok l D cs a τ ss hh pr pd2 ln fr kn su k hg (by rw [e7]; exact hn)))) (kR_M (c_X7_bill l D cs am σ pa sl sv pd kn ln k hlo.1 hk)) (by rw [if_pos hn]; exact LE_bill hLE hn) hR (by omega)
  · exact PRI_mk (kM_z (kR_M (c_X6_bill_bad l D cs a τ ss hh pr pd2 ln fr kn su k hg hk (by rw [e7]; exact hn)))) (kR_M (c_X7_bill l D cs am σ pa sl sv pd kn ln k hlo.1 hk)) (if_neg hn).symm hR (by omega)
set_option maxHeartbeats 1000000 in
theorem pr_turnsIn {k : Int} (h : REL N σ pa sl sv pd kn ln τ ss hh pd2 ln fr kn su) (hI : eI a) (hm : mI am) (hN : ∀ q, eC a q → Nz ≤ q) (hNN : 0 ≤ N ∧ N ≤ 900000) (hk : -2147483648 ≤ k ∧ k < 2147483648) : PRI l D cs Nz a am yX6_turnsIn wsX6_turnsIn ({ frames := 4, cells := 0, slots := 0, locals := 93 } : Room) yX7_turnsIn wsX7_turnsIn ({ frames := 5, cells := 0, slots := 0, locals := 118 } : Room) [.int (zI k)] (fun x => .int (zI x)) N σ pa sl sv pd kn ln τ ss hh pr pd2 ln fr kn su := by
  have hR := h
  obtain ⟨hS, ⟨hp, -, hE⟩, ⟨hkn, -, hfr⟩, hH, hL⟩ := h
  have hF := hS.1
  have hG := hF.1
  have hLE := hS.2.2
  have hg := LE_gOK hLE hG
  have hlo := hG.1
  have e7 : τ 7 = σ 7 := hLE.lo (by decide) (by decide)
  have e8 : τ 8 = σ 8 := hLE.lo (by decide) (by decide)
  have e6 : τ 6 = σ 6 := hLE.lo (by decide) (by decide)
  by_cases hn : 0 ≤ k ∧ k < σ 7
  · have h6 := fOK_6 hF
    exact PRI_mk (kM_z (c_X6_turnsIn_ok l D cs a τ ss hh pr pd2 ln fr kn su k hI hg (by rw [e7]; exact hn))) (c_X7_turnsIn_ok l D cs am σ pa sl sv pd kn ln k hG hn h6.2 hm) (LE_ti hLE hF hn) ⟨SM_cong hS (tiS_in hn.1), hR.2⟩ (by omega)
  · exact PRI_mk (kM_z (kR_M (c_X6_turnsIn_bad l D cs a τ ss hh pr pd2 ln fr kn su k hg hk (by rw [e7]; exact hn)))) (kR_M (c_X7_turnsIn_bad l D cs am σ pa sl sv pd kn ln k hlo.1 hk hn)) rfl hR (by omega)
set_option maxHeartbeats 1000000 in
theorem pr_wouldTurn {k : Int} {w : Int} {nt : Int} (h : REL N σ pa sl sv pd kn ln τ ss hh pd2 ln fr kn su) (hI : eI a) (hm : mI am) (hN : ∀ q, eC a q → Nz ≤ q) (hNN : 0 ≤ N ∧ N ≤ 900000) (hk : -2147483648 ≤ k ∧ k < 2147483648) (hw : -2147483648 ≤ w ∧ w < 2147483648) (hnt : -2147483648 ≤ nt ∧ nt < 2147483648) : PRI l D cs Nz a am yX6_wouldTurn wsX6_wouldTurn ({ frames := 4, cells := 0, slots := 0, locals := 98 } : Room) yX7_wouldTurn wsX7_wouldTurn ({ frames := 5, cells := 0, slots := 0, locals := 118 } : Room) [.int (zI k), .int (zI w), .int (zI nt)] (fun x => .int (zI x)) N σ pa sl sv pd kn ln τ ss hh pr pd2 ln fr kn su := by
  have hR := h
  obtain ⟨hS, ⟨hp, -, hE⟩, ⟨hkn, -, hfr⟩, hH, hL⟩ := h
  have hF := hS.1
  have hG := hF.1
  have hLE := hS.2.2
  have hg := LE_gOK hLE hG
  have hlo := hG.1
  have e7 : τ 7 = σ 7 := hLE.lo (by decide) (by decide)
  have e8 : τ 8 = σ 8 := hLE.lo (by decide) (by decide)
  have e6 : τ 6 = σ 6 := hLE.lo (by decide) (by decide)
  by_cases hn : 0 ≤ k ∧ k < σ 7
  · by_cases hq : (1 ≤ w ∧ w ≤ 1440) ∧ (0 ≤ nt ∧ nt ≤ 1)
    · have h6 := fOK_6 hF
      exact PRI_mk (kM_z (c_X6_wouldTurn_ok l D cs a τ ss hh pr pd2 ln fr kn su k w nt hI hg (by rw [e7]; exact hn) hq.1 hq.2)) (c_X7_wouldTurn_ok l D cs am σ pa sl sv pd kn ln k w nt hG hn hq.1 hq.2 h6.2 hm) (LE_wt hLE hF hn) ⟨SM_cong hS (wtS_in hn.1 _), hR.2⟩ (by omega)
    · exact PRI_mk (kM_z (kR_M (c_X6_wouldTurn_bad l D cs a τ ss hh pr pd2 ln fr kn su k w nt hg (by rw [e7]; exact hn) hw hnt hq))) (kR_M (c_X7_wouldTurn_bad l D cs am σ pa sl sv pd kn ln k w nt hlo.1 hk hw hnt (fun q => hq ⟨q.2.1, q.2.2⟩))) (if_pos hn).symm hR (by omega)
  · exact PRI_mk (kM_z (kR_M (c_X6_wouldTurn_no l D cs a τ ss hh pr pd2 ln fr kn su k w nt hg hk hw hnt (by rw [e7]; exact hn)))) (kR_M (c_X7_wouldTurn_bad l D cs am σ pa sl sv pd kn ln k w nt hlo.1 hk hw hnt (fun q => hn q.1))) (if_neg hn).symm hR (by omega)
set_option maxHeartbeats 1000000 in
theorem pr_worst  (h : REL N σ pa sl sv pd kn ln τ ss hh pd2 ln fr kn su) (hI : eI a) (hm : mI am) (hN : ∀ q, eC a q → Nz ≤ q) (hNN : 0 ≤ N ∧ N ≤ 900000)  : PRI l D cs Nz a am yX6_worst wsX6_worst ({ frames := 3, cells := 0, slots := 0, locals := 62 } : Room) yX7_worst wsX7_worst ({ frames := 4, cells := 0, slots := 0, locals := 85 } : Room) [] (fun x => .int (zI x)) N σ pa sl sv pd kn ln τ ss hh pr pd2 ln fr kn su := by
  have hR := h
  obtain ⟨hS, ⟨hp, -, hE⟩, ⟨hkn, -, hfr⟩, hH, hL⟩ := h
  have hF := hS.1
  have hG := hF.1
  have hLE := hS.2.2
  have hg := LE_gOK hLE hG
  have hlo := hG.1
  have e7 : τ 7 = σ 7 := hLE.lo (by decide) (by decide)
  have e8 : τ 8 = σ 8 := hLE.lo (by decide) (by decide)
  have e6 : τ 6 = σ 6 := hLE.lo (by decide) (by decide)
  exact PRI_mk (kM_z (kR_M (c_X6_worst l D cs a τ ss hh pr pd2 ln fr kn su hg (fun j p q => uOK_of hLE hF ⟨p, by rw [e7] at q; exact q⟩)))) (kR_M (c_X7_worst l D cs am σ pa sl sv pd kn ln hlo.1 (fun j p q => mOK_of hF ⟨p, q⟩))) (LE_worst hLE hlo.1.1) hR (by omega)
set_option maxHeartbeats 1000000 in
theorem pr_lags {k : Int} (h : REL N σ pa sl sv pd kn ln τ ss hh pd2 ln fr kn su) (hI : eI a) (hm : mI am) (hN : ∀ q, eC a q → Nz ≤ q) (hNN : 0 ≤ N ∧ N ≤ 900000) (hk : -2147483648 ≤ k ∧ k < 2147483648) : PRI l D cs Nz a am yX6_lags wsX6_lags ({ frames := 2, cells := 0, slots := 0, locals := 43 } : Room) yX7_lags wsX7_lags ({ frames := 3, cells := 0, slots := 0, locals := 64 } : Room) [.int (zI k)] (fun x => .int (zI x)) N σ pa sl sv pd kn ln τ ss hh pr pd2 ln fr kn su := by
  have hR := h
  obtain ⟨hS, ⟨hp, -, hE⟩, ⟨hkn, -, hfr⟩, hH, hL⟩ := h
  have hF := hS.1
  have hG := hF.1
  have hLE := hS.2.2
  have hg := LE_gOK hLE hG
  have hlo := hG.1
  have e7 : τ 7 = σ 7 := hLE.lo (by decide) (by decide)
  have e8 : τ 8 = σ 8 := hLE.lo (by decide) (by decide)
  have e6 : τ 6 = σ 6 := hLE.lo (by decide) (by decide)
  by_cases hn : 0 ≤ k ∧ k < σ 7
  · exact PRI_mk (kM_z (kR_M (c_X6_lags_ok l D cs a τ ss hh pr pd2 ln fr kn su k hg (by rw [e7]; exact hn)))) (kR_M (c_X7_lags_ok l D cs am σ pa sl sv pd kn ln k hlo hn)) (LE_lags hLE hF hn) hR (by omega)
  · exact PRI_mk (kM_z (kR_M (c_X6_lags_bad l D cs a τ ss hh pr pd2 ln fr kn su k hg hk (by rw [e7]; exact hn)))) (kR_M (c_X7_lags_bad l D cs am σ pa sl sv pd kn ln k hlo.1 hk hn)) rfl hR (by omega)
set_option maxHeartbeats 1000000 in
theorem pr_put {x : Int} (h : REL N σ pa sl sv pd kn ln τ ss hh pd2 ln fr kn su) (hI : eI a) (hm : mI am) (hN : ∀ q, eC a q → Nz ≤ q) (hNN : 0 ≤ N ∧ N ≤ 900000) (hx : -9223372036854775808 ≤ x ∧ x < 9223372036854775808) : PRI l D cs Nz a am yX6_put wsX6_put ({ frames := 2, cells := 0, slots := 0, locals := 45 } : Room) yX7_put wsX7_put ({ frames := 1, cells := 0, slots := 0, locals := 22 } : Room) [.long (zL x)] (fun x => .int (zI x)) N σ pa sl sv pd kn ln τ ss hh pr pd2 ln fr kn su := by
  have hR := h
  obtain ⟨hS, ⟨hp, -, hE⟩, ⟨hkn, -, hfr⟩, hH, hL⟩ := h
  have hF := hS.1
  have hG := hF.1
  have hLE := hS.2.2
  have hg := LE_gOK hLE hG
  have hlo := hG.1
  have e7 : τ 7 = σ 7 := hLE.lo (by decide) (by decide)
  have e8 : τ 8 = σ 8 := hLE.lo (by decide) (by decide)
  have e6 : τ 6 = σ 6 := hLE.lo (by decide) (by decide)
  have hM := ptM_rng x 8
  have hp1 := hp.1
  by_cases hn : ptR x 8 = 1 ∧ 0 < ptM x 8
  · have es : sgN x = ptM x 8 := if_pos hn.1
    by_cases hq : ln + ptM x 8 ≤ 80
    · refine PRI_mk (kM_z (c_X6_put_ok l D cs a τ ss hh pr pd2 ln fr kn su x hx hI hp.1 ⟨by rw [es]; omega, by rw [es]; exact hq⟩)) (c_X7_put_ok l D cs am σ pa sl sv pd kn ln x hx hn hq hp.1 hm) (by rw [es]) (REL_pd hR ⟨by omega, CH_pt hp.2 hn.1 rfl⟩ (by rw [es]) ?_) (by omega)
      rw [es]
      exact PE_ptW hE rfl
    · exact PRI_mk (kM_z (kR_M (c_X6_put_many l D cs a τ ss hh pr pd2 ln fr kn su x hx hp.1 ⟨by rw [es]; omega, by rw [es]; omega⟩))) (kR_M (c_X7_put_many l D cs am σ pa sl sv pd kn ln x hx hn (by omega) hp.1)) rfl hR (by omega)
  · have es : sgN x = 0 := by
      unfold sgN
      split
      · rename_i q; have := hM.1; have q2 : ¬ 0 < ptM x 8 := fun z => hn ⟨q, z⟩; omega
      · rfl
    exact PRI_mk (kM_z (kR_M (c_X6_put_bad l D cs a τ ss hh pr pd2 ln fr kn su x hx hp.1 es))) (kR_M (c_X7_put_bad l D cs am σ pa sl sv pd kn ln x hx hn hp.1)) rfl hR (by omega)
set_option maxHeartbeats 1000000 in
theorem pr_wipe  (h : REL N σ pa sl sv pd kn ln τ ss hh pd2 ln fr kn su) (hI : eI a) (hm : mI am) (hN : ∀ q, eC a q → Nz ≤ q) (hNN : 0 ≤ N ∧ N ≤ 900000)  : PRI l D cs Nz a am yX6_wipe wsX6_wipe ({ frames := 1, cells := 0, slots := 0, locals := 20 } : Room) yX7_wipe wsX7_wipe ({ frames := 0, cells := 0, slots := 0, locals := 0 } : Room) [] (fun x => .int (zI x)) N σ pa sl sv pd kn ln τ ss hh pr pd2 ln fr kn su := by
  have hR := h
  obtain ⟨hS, ⟨hp, -, hE⟩, ⟨hkn, -, hfr⟩, hH, hL⟩ := h
  have hF := hS.1
  have hG := hF.1
  have hLE := hS.2.2
  have hg := LE_gOK hLE hG
  have hlo := hG.1
  have e7 : τ 7 = σ 7 := hLE.lo (by decide) (by decide)
  have e8 : τ 8 = σ 8 := hLE.lo (by decide) (by decide)
  have e6 : τ 6 = σ 6 := hLE.lo (by decide) (by decide)
  exact PRI_mk (kM_z (c_X6_wipe l D cs a τ ss hh pr pd2 ln fr kn su hI)) (c_X7_wipe l D cs am σ pa sl sv pd kn ln hm) rfl (REL_pd hR ⟨by decide, fun i p q => absurd q (by omega)⟩ rfl (fun i p q => absurd q (by omega))) (by omega)
set_option maxHeartbeats 1000000 in
theorem pr_fault  (h : REL N σ pa sl sv pd kn ln τ ss hh pd2 ln fr kn su) (hI : eI a) (hm : mI am) (hN : ∀ q, eC a q → Nz ≤ q) (hNN : 0 ≤ N ∧ N ≤ 900000)  : PRI l D cs Nz a am yX6_fault wsX6_fault ({ frames := 3, cells := 0, slots := 0, locals := 64 } : Room) yX7_fault wsX7_fault ({ frames := 4, cells := 0, slots := 0, locals := 86 } : Room) [] (fun x => .int (zI x)) N σ pa sl sv pd kn ln τ ss hh pr pd2 ln fr kn su := by
  have hR := h
  obtain ⟨hS, ⟨hp, -, hE⟩, ⟨hkn, -, hfr⟩, hH, hL⟩ := h
  have hF := hS.1
  have hG := hF.1
  have hLE := hS.2.2
  have hg := LE_gOK hLE hG
  have hlo := hG.1
  have e7 : τ 7 = σ 7 := hLE.lo (by decide) (by decide)
  have e8 : τ 8 = σ 8 := hLE.lo (by decide) (by decide)
  have e6 : τ 6 = σ 6 := hLE.lo (by decide) (by decide)
  have hp0 : ∀ i : Int, 0 ≤ i → i < ln → 0 ≤ pd2 i ∧ pd2 i < 65536 := fun i p q => by
    rw [hE i p q]
    have := hp.2 i p q
    omega
  exact PRI_mk (kM_z (kR_M (c_X6_fault l D cs a τ ss hh pr pd2 ln fr kn su hp.1 hp0))) (kR_M (c_X7_fault l D cs am σ pa sl sv pd kn ln hp)) (by rw [fO_flt hp.1]; exact PE_flt hE 80 0 (by decide)) hR (by omega)
set_option maxHeartbeats 1000000 in
theorem pr_carryOut  (h : REL N σ pa sl sv pd kn ln τ ss hh pd2 ln fr kn su) (hI : eI a) (hm : mI am) (hN : ∀ q, eC a q → Nz ≤ q) (hNN : 0 ≤ N ∧ N ≤ 900000)  : PRI l D cs Nz a am yX6_carryOut wsX6_carryOut ({ frames := 6, cells := 0, slots := 0, locals := 143 } : Room) yX7_carryOut wsX7_carryOut ({ frames := 7, cells := 0, slots := 0, locals := 165 } : Room) [] (fun x => .int (zI x)) N σ pa sl sv pd kn ln τ ss hh pr pd2 ln fr kn su := by
  have hR := h
  obtain ⟨hS, ⟨hp, -, hE⟩, ⟨hkn, -, hfr⟩, hH, hL⟩ := h
  have hF := hS.1
  have hG := hF.1
  have hLE := hS.2.2
  have hg := LE_gOK hLE hG
  have hlo := hG.1
  have e7 : τ 7 = σ 7 := hLE.lo (by decide) (by decide)
  have e8 : τ 8 = σ 8 := hLE.lo (by decide) (by decide)
  have e6 : τ 6 = σ 6 := hLE.lo (by decide) (by decide)
  have hp2 : pOK pd2 ln := ⟨hp.1, fun i p q => by rw [hE i p q]; exact hp.2 i p q⟩
  have ef := PE_flt hE 80 0 (by decide)
  by_cases hn : flt pd ln 80 0 = -6
  · have h80 : ln - 0 < 2 * (((81 : Nat) : Int) - 1) := by have := hp.1; omega
    have hc := PE_cosS hE 81 σ 0 (by decide) (fun _ => hn) h80
    have hs := SM_cos (pd := pd2) (ln := ln) 81 N σ τ 0 hS (by decide) (fun _ => by rw [ef]; exact hn) h80 (by omega)
    rw [hc.1] at hs
    exact PRI_mk (kM_z (c_X6_carryOut_ok l D cs a τ ss hh pr pd2 ln fr kn su σ N hI hfr hkn hp2 (by rw [ef]; exact hn) hS (by omega))) (c_X7_carryOut_ok l D cs am σ pa sl sv pd kn ln N hF hp hn hkn (by omega) hm) (hs.2.trans hc.2) (REL_pd (REL_rem hR hs.1 (by omega)) ⟨by decide, fun i p q => absurd q (by omega)⟩ rfl (fun i p q => absurd q (by omega))) (by omega)
  · exact PRI_mk (kM_z (kR_M (c_X6_carryOut_bad l D cs a τ ss hh pr pd2 ln fr kn su hp2 (by rw [ef]; exact hn)))) (kR_M (c_X7_carryOut_bad l D cs am σ pa sl sv pd kn ln hp hn)) rfl hR (by omega)
set_option maxHeartbeats 1000000 in
theorem pr_undo  (h : REL N σ pa sl sv pd kn ln τ ss hh pd2 ln fr kn su) (hI : eI a) (hm : mI am) (hN : ∀ q, eC a q → Nz ≤ q) (hNN : 0 ≤ N ∧ N ≤ 900000)  : PRI l D cs Nz a am yX6_undo wsX6_undo ({ frames := 2, cells := 0, slots := 0, locals := 43 } : Room) yX7_undo wsX7_undo ({ frames := 0, cells := 0, slots := 0, locals := 0 } : Room) [] (fun x => .int (zI x)) N σ pa sl sv pd kn ln τ ss hh pr pd2 ln fr kn su := by
  have hR := h
  obtain ⟨hS, ⟨hp, -, hE⟩, ⟨hkn, -, hfr⟩, hH, hL⟩ := h
  have hF := hS.1
  have hG := hF.1
  have hLE := hS.2.2
  have hg := LE_gOK hLE hG
  have hlo := hG.1
  have e7 : τ 7 = σ 7 := hLE.lo (by decide) (by decide)
  have e8 : τ 8 = σ 8 := hLE.lo (by decide) (by decide)
  have e6 : τ 6 = σ 6 := hLE.lo (by decide) (by decide)
  by_cases hn : kn = 0
  · exact PRI_mk (kM_z (kR_M (c_X6_undo_bad l D cs a τ ss hh pr pd2 ln fr kn su hn))) (kR_M (c_X7_undo_bad l D cs am σ pa sl sv pd kn ln hn)) rfl hR (by omega)
  · have hu := HH_und hH (by omega) hfr
    exact PRI_mk (kM_z (c_X6_undo_ok l D cs a τ ss hh pr pd2 ln fr kn su hI hfr (by omega) (LE_gOK hu.2.2.2 hu.2.1.1))) (c_X7_undo_ok l D cs am σ pa sl sv pd kn ln (by omega) hm) rfl ⟨SM_back hu.2, hR.2.1, ⟨by omega, rfl, by omega⟩, hu.1, hL⟩ (by omega)
set_option maxHeartbeats 1000000 in
theorem pr_save {k : Int} (h : REL N σ pa sl sv pd kn ln τ ss hh pd2 ln fr kn su) (hI : eI a) (hm : mI am) (hN : ∀ q, eC a q → Nz ≤ q) (hNN : 0 ≤ N ∧ N ≤ 900000) (hk : -2147483648 ≤ k ∧ k < 2147483648) : PRI l D cs Nz a am yX6_save wsX6_save ({ frames := 2, cells := 0, slots := 0, locals := 43 } : Room) yX7_save wsX7_save ({ frames := 1, cells := 0, slots := 0, locals := 22 } : Room) [.int (zI k)] (fun x => .int (zI x)) N σ pa sl sv pd kn ln τ ss hh pr pd2 ln fr kn su := by
  have hR := h
  obtain ⟨hS, ⟨hp, -, hE⟩, ⟨hkn, -, hfr⟩, hH, hL⟩ := h
  have hF := hS.1
  have hG := hF.1
  have hLE := hS.2.2
  have hg := LE_gOK hLE hG
  have hlo := hG.1
  have e7 : τ 7 = σ 7 := hLE.lo (by decide) (by decide)
  have e8 : τ 8 = σ 8 := hLE.lo (by decide) (by decide)
  have e6 : τ 6 = σ 6 := hLE.lo (by decide) (by decide)
  by_cases hn : 0 ≤ k ∧ k ≤ 1
  · exact PRI_mk (kM_z (c_X6_save_ok l D cs a τ ss hh pr pd2 ln fr kn su k hI hg hn)) (c_X7_save_ok l D cs am σ pa sl sv pd kn ln k hn hm) e7 ⟨hS, hR.2.1, hR.2.2.1, hH, SL_save hL hS hn⟩ (by omega)
  · exact PRI_mk (kM_z (kR_M (c_X6_save_bad l D cs a τ ss hh pr pd2 ln fr kn su k hk hn))) (kR_M (c_X7_save_bad l D cs am σ pa sl sv pd kn ln k hk hn)) rfl hR (by omega)
set_option maxHeartbeats 1000000 in
theorem pr_restore {k : Int} (h : REL N σ pa sl sv pd kn ln τ ss hh pd2 ln fr kn su) (hI : eI a) (hm : mI am) (hN : ∀ q, eC a q → Nz ≤ q) (hNN : 0 ≤ N ∧ N ≤ 900000) (hk : -2147483648 ≤ k ∧ k < 2147483648) : PRI l D cs Nz a am yX6_restore wsX6_restore ({ frames := 3, cells := 0, slots := 0, locals := 64 } : Room) yX7_restore wsX7_restore ({ frames := 1, cells := 0, slots := 0, locals := 22 } : Room) [.int (zI k)] (fun x => .int (zI x)) N σ pa sl sv pd kn ln τ ss hh pr pd2 ln fr kn su := by
  have hR := h
  obtain ⟨hS, ⟨hp, -, hE⟩, ⟨hkn, -, hfr⟩, hH, hL⟩ := h
  have hF := hS.1
  have hG := hF.1
  have hLE := hS.2.2
  have hg := LE_gOK hLE hG
  have hlo := hG.1
  have e7 : τ 7 = σ 7 := hLE.lo (by decide) (by decide)
  have e8 : τ 8 = σ 8 := hLE.lo (by decide) (by decide)
  have e6 : τ 6 = σ 6 := hLE.lo (by decide) (by decide)
  by_cases hn : 0 ≤ k ∧ k ≤ 1
  · obtain ⟨q1, q2, q3⟩ := hL k hn.1 hn.2
    by_cases hs1 : sv k = 1
    · have hT := q3 hs1
      have e77 : ss k 7 = sl (138 * k + 7) := hT.2.2.lo (by decide) (by decide)
      exact PRI_mk (kM_z (c_X6_restore_ok l D cs a τ ss hh pr pd2 ln fr kn su k hI hfr hg hkn hn (by rw [q2]; exact hs1) (LE_gOK hT.2.2 hT.1.1))) (c_X7_restore_ok l D cs am σ pa sl sv pd kn ln k hn hs1 hkn hm) e77 (REL_rem hR (SM_back hT) (Int.le_refl _)) (by omega)
    · have hs0 : sv k = 0 := by omega
      exact PRI_mk (kM_z (kR_M (c_X6_restore_no l D cs a τ ss hh pr pd2 ln fr kn su k hn (by rw [q2]; exact hs0)))) (kR_M (c_X7_restore_bad l D cs am σ pa sl sv pd kn ln k hk (fun _ _ => hs0))) (if_pos hn).symm hR (by omega)
  · exact PRI_mk (kM_z (kR_M (c_X6_restore_bad l D cs a τ ss hh pr pd2 ln fr kn su k hk hn))) (kR_M (c_X7_restore_bad l D cs am σ pa sl sv pd kn ln k hk (fun p q => absurd ⟨p, q⟩ hn))) (if_neg hn).symm hR (by omega)
end PP
