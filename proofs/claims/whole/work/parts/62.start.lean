/-! the law's start: classes, static rows, both worlds as they are born -/
theorem REL_0 : REL 0 sM0 (fun _ => 0) (fun _ => 0) (fun _ => 0) (fun _ => 0) 0 0 hT0 (fun _ => hT0) (fun _ => hT0) (fun _ => 0) 0 0 0 (fun _ => 0) := by
  have hi : ∀ i : Int, sM0 i = if i = 5 then 5 else if i = 4 then 9 else if i = 3 then 1000 else if i = 2 then 1 else if i = 1 then 2 else if i = 0 then 15 else 0 := fun i => rfl
  have h0 : ∀ i : Int, 6 ≤ i → sM0 i = 0 := fun i h => by
    rw [hi, if_neg (by omega), if_neg (by omega), if_neg (by omega), if_neg (by omega), if_neg (by omega), if_neg (by omega)]
  have e7 : sM0 7 = 0 := h0 7 (by decide)
  have e8 : sM0 8 = 0 := h0 8 (by decide)
  have e6 : sM0 6 = 0 := h0 6 (by decide)
  have e0 : sM0 0 = 15 := rfl
  have e1 : sM0 1 = 2 := rfl
  have e2 : sM0 2 = 1 := rfl
  have e3 : sM0 3 = 1000 := rfl
  have e4 : sM0 4 = 9 := rfl
  have e5 : sM0 5 = 5 := rfl
  have hL : lOK sM0 := ⟨by rw [e7]; omega, by rw [e8]; omega, fun i p q => by rw [e7] at q; omega, fun j p q => by rw [e8] at q; omega⟩
  have hG : gOK sM0 0 := ⟨hL, ⟨by show 0 ≤ sM0 0 ∧ sM0 0 ≤ 99; omega, by show 0 ≤ sM0 1 ∧ sM0 1 ≤ 9; omega, by show sM0 2 = 0 ∨ sM0 2 = 1; omega, by show 100 ≤ sM0 3 ∧ sM0 3 ≤ 5000; omega, by show 0 ≤ sM0 6 ∧ sM0 6 < 1000000; omega⟩, fun k p q => by rw [e7] at q; omega⟩
  have hF : fOK 0 sM0 := ⟨hG, by omega, by omega, by omega, by rw [h0 10 (by decide)]; omega, fun q => by rw [e7] at q; omega, fun k p q => by rw [e7] at q; omega⟩
  have hB : BS sM0 := by
    show sM0 9 = blC sM0 (sM0 7).toNat
    rw [e7, h0 9 (by decide)]; rfl
  have hE : LE sM0 hT0 := ⟨fun i h => by
    have hi2 : (0 ≤ i ∧ i < 9) ∨ i = 10 := by
      rcases h with h | h | h | h
      · exact Or.inl h
      · exact Or.inr h
      · rw [e7] at h; omega
      · rw [e8] at h; omega
    by_cases q : i < 6
    · rcases (show i = 0 ∨ i = 1 ∨ i = 2 ∨ i = 3 ∨ i = 4 ∨ i = 5 by omega) with z | z | z | z | z | z <;> subst z <;> rfl
    · rw [h0 i (by omega)]
      unfold hT0
      rw [if_neg q, if_pos (by omega)], fun q => by rw [e7] at q; omega⟩
  exact ⟨⟨hF, hB, hE⟩, ⟨⟨by decide, fun i p q => by omega⟩, rfl, fun i p q => by omega⟩, ⟨by decide, rfl, by decide⟩, fun i p q => by omega, fun k p q => ⟨Or.inl rfl, rfl, fun z => absurd (show (0 : Int) = 1 from z) (by decide)⟩⟩
theorem arrP {args : Array Value} {s : State} {ty : FieldType} (hno : ∀ C, ty ≠ .object C) (h : (Cond.arrayClass ty).before args s = true) : ∃ cA : ClassId, ArrOfT s cA ty ∧ va_RA s cA ty := by
  obtain ⟨cA, kA, comp, h1, h2, h3⟩ := Cond.arrayClass_spec h
  refine ⟨cA, fun n z => ⟨fun k h => (by cases h), kA, h2, comp, h3⟩, ?_⟩
  cases ty with
  | object C => exact absurd rfl (hno C)
  | _ => exact h1
theorem arrQ {args : Array Value} {s : State} {C : String} (h : (Cond.arrayOver (.object C)).before args s = true) : ∃ cA : ClassId, ArrOfT s cA (.object C) ∧ va_RA s cA (.object C) := by
  obtain ⟨comp, cA, kA, h1, h2, h3, h4, h5⟩ := Cond.arrayOver_spec h
  exact ⟨cA, fun n z => ⟨fun k h => (by cases h), kA, h3, comp, h4⟩, kA, comp, h3, h4, h1, h5⟩
theorem kO_of {s : State} {b : Nat} (hts : ∀ w ∈ lw_tbl, w.before #[Value.ref b] s = true) : kO s :=
  ⟨va_AO.of (hts (.arrayOver (.object RX4)) (by decide +kernel)), va_AO.of (hts (.arrayOver (.object RX3)) (by decide +kernel)), va_AO.of (hts (.arrayOver (.object RX2)) (by decide +kernel))⟩
theorem kK_of {s : State} {b : Nat} (hts : ∀ w ∈ lw_tbl, w.before #[Value.ref b] s = true) : ∃ (D : va_G) (cs : Nat → ClassId), kK D cs s := by
  obtain ⟨c1, i1, k1⟩ := u_known (C := RX1) (T := TX1) (N := 3) (n := 3) hts inX1 (hts (.instantiable RX1 3) (by decide +kernel))
  obtain ⟨c2, i2, k2⟩ := u_known (C := RX2) (T := TX2) (N := 7) (n := 7) hts inX2 (hts (.instantiable RX2 7) (by decide +kernel))
  obtain ⟨c3, i3, k3⟩ := u_known (C := RX3) (T := TX3) (N := 3) (n := 3) hts inX3 (hts (.instantiable RX3 3) (by decide +kernel))
  obtain ⟨c4, i4, k4⟩ := u_known (C := RX4) (T := TX4) (N := 13) (n := 13) hts inX4 (hts (.instantiable RX4 13) (by decide +kernel))
  obtain ⟨c5, i5, k5⟩ := u_known (C := RX5) (T := TX5) (N := 2) (n := 2) hts inX5 (hts (.instantiable RX5 2) (by decide +kernel))
  obtain ⟨c6, i6, k6⟩ := u_known (C := RX6) (T := TX6) (N := 6) (n := 6) hts inX6 (hts (.instantiable RX6 6) (by decide +kernel))
  obtain ⟨c7, i7, k7⟩ := u_known (C := RX7) (T := TX7) (N := 7) (n := 7) hts inX7 (hts (.instantiable RX7 7) (by decide +kernel))
  obtain ⟨a0, r0⟩ := arrP (ty := .int) (fun C h => by cases h) (hts (.arrayClass .int) (by decide +kernel))
  obtain ⟨a1, r1⟩ := arrP (ty := .long) (fun C h => by cases h) (hts (.arrayClass .long) (by decide +kernel))
  obtain ⟨a2, r2⟩ := arrP (ty := .boolean) (fun C h => by cases h) (hts (.arrayClass .boolean) (by decide +kernel))
  obtain ⟨a3, r3⟩ := arrP (ty := .char) (fun C h => by cases h) (hts (.arrayClass .char) (by decide +kernel))
  obtain ⟨a4, r4⟩ := arrQ (C := RX4) (hts (.arrayOver (.object RX4)) (by decide +kernel))
  obtain ⟨a5, r5⟩ := arrQ (C := RX3) (hts (.arrayOver (.object RX3)) (by decide +kernel))
  obtain ⟨a6, r6⟩ := arrQ (C := RX2) (hts (.arrayOver (.object RX2)) (by decide +kernel))
  refine ⟨(fun k => match k with | 0 => c1 | 1 => c2 | 2 => c3 | 3 => c4 | 4 => c5 | 5 => c6 | _ => c7, fun k => match k with | 0 => i1 | 1 => i2 | 2 => i3 | 3 => i4 | 4 => i5 | 5 => i6 | _ => i7), fun k => match k with | 0 => a0 | 1 => a1 | 2 => a2 | 3 => a3 | 4 => a4 | 5 => a5 | _ => a6, ⟨?_, ?_⟩, ?_⟩
  · intro k q hq
    match k, hq with
    | 0, hq => cases hq; exact k1
    | 1, hq => cases hq; exact k2
    | 2, hq => cases hq; exact k3
    | 3, hq => cases hq; exact k4
    | 4, hq => cases hq; exact k5
    | 5, hq => cases hq; exact k6
    | 6, hq => cases hq; exact k7
    | k + 7, hq => simp at hq
  · intro k q hq
    match k, hq with
    | 0, hq => cases hq; exact r0
    | 1, hq => cases hq; exact r1
    | 2, hq => cases hq; exact r2
    | 3, hq => cases hq; exact r3
    | 4, hq => cases hq; exact r4
    | 5, hq => cases hq; exact r5
    | 6, hq => cases hq; exact r6
    | k + 7, hq => simp at hq
  · exact ⟨va_Nw.of rfl (hts (.methodLinkNest RX2 101 yX6_minutesToSwitch RX6) (by decide +kernel)), va_Nw.of rfl (hts (.methodLinkNest RX2 116 yX6_isNight RX6) (by decide +kernel))⟩
theorem zAt_of {s : State} {b : Nat} {nm : String} {g : Int → Int} (hl : (Cond.laysStatic RX6 nm "[I").before #[Value.ref b] s = true) (hini : (Cond.initialized RX6).before #[Value.ref b] s = true) (harr : (Cond.arrayOf (.static RX6 nm "[I") .int).before #[Value.ref b] s = true) (hlen : (Cond.eq (.length (.static RX6 nm "[I")) (.int 6)).before #[Value.ref b] s = true) (hel : ∀ j : Nat, j < 6 → (Cond.eq (.elem (.static RX6 nm "[I") (.int (Int32.ofNat j))) (.int (zI (g j)))).before #[Value.ref b] s = true) : ∃ t : Nat, zAt s.heap.size nm g t s s.heap := by
  obtain ⟨t, h1, h2⟩ := va_Tof (N := 6) (f := fun k => .int (zI (g k))) (A := fun q => s.heap.size ≤ q) (by decide) harr (va_eqt hlen) (fun j hj => va_eqt (hel j hj)) (fun a h => Nat.not_le.mpr h)
  exact ⟨t, va_Zof hl hini h1 (fun a h => Nat.not_le.mpr h), h2⟩
theorem kZ_of {s : State} {b : Nat} (hts : ∀ w ∈ lw_tbl, w.before #[Value.ref b] s = true) (hgv : (Jvm.Cond.and given_1 narrow_1).before #[Value.ref b] s = true) : kZ s.heap.size s s.heap := by
  have hs := flat_of_before _ hgv
  have hini := hts (.initialized RX6) (by decide +kernel)
  obtain ⟨t0, z0⟩ := zAt_of (nm := "FIRST") (g := fsS) (hts (.laysStatic RX6 "FIRST" "[I") (by decide +kernel)) hini (hs _ (by decide +kernel)) (hs _ (by decide +kernel)) (fun j hj => by
    rcases (show j = 0 ∨ j = 1 ∨ j = 2 ∨ j = 3 ∨ j = 4 ∨ j = 5 by omega) with h | h | h | h | h | h <;> subst h <;> exact hs _ (by decide +kernel))
  obtain ⟨t1, z1⟩ := zAt_of (nm := "LOWEST") (g := loS) (hts (.laysStatic RX6 "LOWEST" "[I") (by decide +kernel)) hini (hs _ (by decide +kernel)) (hs _ (by decide +kernel)) (fun j hj => by
    rcases (show j = 0 ∨ j = 1 ∨ j = 2 ∨ j = 3 ∨ j = 4 ∨ j = 5 by omega) with h | h | h | h | h | h <;> subst h <;> exact hs _ (by decide +kernel))
  obtain ⟨t2, z2⟩ := zAt_of (nm := "HIGHEST") (g := hiS) (hts (.laysStatic RX6 "HIGHEST" "[I") (by decide +kernel)) hini (hs _ (by decide +kernel)) (hs _ (by decide +kernel)) (fun j hj => by
    rcases (show j = 0 ∨ j = 1 ∨ j = 2 ∨ j = 3 ∨ j = 4 ∨ j = 5 by omega) with h | h | h | h | h | h <;> subst h <;> exact hs _ (by decide +kernel))
  exact ⟨⟨va_Nw.of rfl (hts (.fieldLinkNest RX2 27 RX6 "FIRST" "[I" RX6) (by decide +kernel)), va_Nw.of rfl (hts (.fieldLinkNest RX2 52 RX6 "LOWEST" "[I" RX6) (by decide +kernel)), va_Nw.of rfl (hts (.fieldLinkNest RX2 55 RX6 "HIGHEST" "[I" RX6) (by decide +kernel))⟩, t0, t1, t2, z0, z1, z2⟩
