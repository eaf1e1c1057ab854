/-! a call of the law: class and reference side by side -/
theorem stp_in {τ : Int → Int} {k i : Int} (hk : 0 ≤ k) (h : i < 138) : stp τ k i = τ i := (up_n (by omega)).trans (pOne_n (by omega))
theorem tiS_lo {k i : Int} (hk : 0 ≤ k) (h : i < 138) : ∀ (f : Nat) (τ : Int → Int), tiS k f τ i = τ i := by
  intro f
  induction f with
  | zero => intro τ; rfl
  | succ f ih =>
    intro τ
    show (if 0 < pOneP τ 138 k / 6000 then stp τ k else tiS k f (stp τ k)) i = τ i
    split
    · exact stp_in hk h
    · rw [ih]; exact stp_in hk h
theorem wtS_lo {τ : Int → Int} {k i : Int} (hk : 0 ≤ k) (h : i < 138) : ∀ n : Nat, wtS τ k n i = τ i := by
  intro n
  induction n with
  | zero => rfl
  | succ n ih => exact (stp_in hk h).trans ih
theorem tiS_in {σ : Int → Int} {k : Int} {f : Nat} (hk : 0 ≤ k) : ∀ i : Int, 0 ≤ i → i < 138 → tiS k f (cpN σ σ 138 138) i = σ i := fun i a b => (tiS_lo hk b f _).trans (cpN_out (by omega))
theorem wtS_in {σ : Int → Int} {k : Int} (hk : 0 ≤ k) (n : Nat) : ∀ i : Int, 0 ≤ i → i < 138 → wtS (cpN σ σ 138 138) k n i = σ i := fun i a b => (wtS_lo hk b n).trans (cpN_out (by omega))
theorem Met_mono {l : Launch} {y : MethodName} {ws : List Cond} {rm : Room} {P P2 : Array Value → State → Prop} {Q Q2 : Array Value → State → Outcome → State → Prop} {mc ms : Nat} {free free2 : Addr → Prop} (h : Met l y ws rm P Q mc ms free) (hP : ∀ a s, P2 a s → P a s) (hQ : ∀ a s o t, P2 a s → Q a s o t → Q2 a s o t) (hF : ∀ q, free q → free2 q) : Met l y ws rm P2 Q2 mc ms free2 := by
  intro p e h1 h2 h3 s m args below h4 h5 h6 h7
  obtain ⟨n, o, a1, a2, a3, a4, L, a5, a6⟩ := h p e h1 h2 h3 s m args below h4 h5 (hP _ _ h6) h7
  exact ⟨n, o, a1, a2, a3, hQ _ _ _ _ h6 a4, L, a5, fun q hq => hF _ (a6 q hq)⟩
theorem kM_z {D : va_G} {cs : Nat → ClassId} {N : Nat} {l : Launch} {y : MethodName} {ws : List Cond} {rm : Room} {as : List Value} {P : Heap → Prop} {v : Option Value} {B : Heap → Prop} {A : Nat → Prop} (h : kM D cs l y ws rm as P v B A) : kMz D cs N l y ws rm as P v B A :=
  Met_mono h (fun a s q => by
    obtain ⟨h1, h2, h3, h4⟩ := q
    exact ⟨h1, h2, h4⟩) (fun a s o t _ q => q) (fun q hq => hq)
theorem kR_M {D : va_G} {cs : Nat → ClassId} {l : Launch} {y : MethodName} {ws : List Cond} {rm : Room} {as : List Value} {P : Heap → Prop} {v : Option Value} {A : Nat → Prop} (h : kR D cs l y ws rm as P v) : kM D cs l y ws rm as P v P A :=
  Met_mono h (fun a s q => q) (fun a s o t hp q => by
    obtain ⟨h1, h2, h3⟩ := hp
    obtain ⟨q1, q2⟩ := q
    exact ⟨q1, by rw [q2]; exact h3, by rw [q2]; exact Nat.le_refl _, fun z _ _ => by rw [q2]⟩) (fun q hq => hq.elim)
section PP
variable {l : Launch} {D : va_G} {cs : Nat → ClassId} {Nz : Nat} {a am : Int → Nat} {y1 : MethodName} {ws1 : List Cond} {rm1 : Room} {y2 : MethodName} {ws2 : List Cond} {rm2 : Room} {as : List Value} {V : Int → Value} {N M : Int} {σ pa sl sv pd : Int → Int} {kn ln : Int} {τ : Int → Int} {ss hh : Int → Int → Int} {pr pd2 : Int → Int} {ln2 fr kp : Int} {su : Int → Int}
variable {σ' pa' sl' sv' pd' : Int → Int} {kn' ln' : Int} {τ' : Int → Int} {ss' hh' : Int → Int → Int} {pr' pd2' : Int → Int} {ln2' fr' kp' : Int} {su' : Int → Int}
theorem REL_mono (h : REL N σ pa sl sv pd kn ln τ ss hh pd2 ln2 fr kp su) (hm : N ≤ M) : REL M σ pa sl sv pd kn ln τ ss hh pd2 ln2 fr kp su := ⟨SM_mono h.1 hm, h.2.1, h.2.2.1, HH_mono h.2.2.2.1 hm, SL_mono h.2.2.2.2 hm⟩
theorem REL_pre {X : Int → Int} (h : REL N σ pa sl sv pd kn ln τ ss hh pd2 ln2 fr kp su) : REL N σ pa sl sv pd kn ln τ ss (upH hh fr X) pd2 ln2 fr kp su := ⟨h.1, h.2.1, h.2.2.1, HH_pre h.2.2.2.1 h.2.2.1.1.2 h.2.2.1.2.2, h.2.2.2.2⟩
theorem REL_rem (h : REL N σ pa sl sv pd kn ln τ ss hh pd2 ln2 fr kn su) (h2 : SM M σ' τ') (hm : N ≤ M) : REL M σ' (remP σ pa kn) sl sv pd (remK kn) ln τ' ss (upH hh fr (cpH (hh fr) τ)) pd2 ln2 ((fr + 1) % 7) (min 6 (kn + 1)) su :=
  ⟨h2, h.2.1, ⟨remK_rng h.2.2.1.1, remK_min h.2.2.1.1, by have := h.2.2.1.2.2; omega⟩, HH_mono (HH_rem h.2.2.2.1 h.1 h.2.2.1.1 h.2.2.1.2.2) hm, SL_mono h.2.2.2.2 hm⟩
theorem REL_pd (h : REL N σ pa sl sv pd kn ln τ ss hh pd2 ln2 fr kp su) (hp : pOK pd' ln') (hl : ln2' = ln') (hE : PE pd' ln' pd2') : REL N σ pa sl sv pd' kn ln' τ ss hh pd2' ln2' fr kp su := ⟨h.1, ⟨hp, hl, hE⟩, h.2.2⟩
end PP
