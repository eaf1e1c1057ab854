/-! the law's start: classes, static rows, both worlds as they are born -/
theorem arrP {args : Array Value} {s : State} {ty : FieldType} (hno : ∀ C, ty ≠ .object C) (h : (Cond.arrayClass ty).before args s = true) : ∃ cA : ClassId, ArrOfT s cA ty ∧ va_RA s cA ty := by
  obtain ⟨cA, kA, comp, h1, h2, h3⟩ := Cond.arrayClass_spec h
  refine ⟨cA, fun n z => ⟨fun k h => (by cases h), kA, h2, comp, h3⟩, ?_⟩
  cases ty with
  | object C => exact absurd rfl (hno C)
  | _ => exact h1
theorem arrQ {args : Array Value} {s : State} {C : String} (h : (Cond.arrayOver (.object C)).before args s = true) : ∃ cA : ClassId, ArrOfT s cA (.object C) ∧ va_RA s cA (.object C) := by
  obtain ⟨comp, cA, kA, h1, h2, h3, h4, h5⟩ := Cond.arrayOver_spec h
  exact ⟨cA, fun n z => ⟨fun k h => (by cases h), kA, h3, comp, h4⟩, kA, comp, h3, h4, h1, h5⟩
theorem kO_of {s : State} {b : Nat} (hts : ∀ w ∈ lw_tbl, w.before #[Value.ref b] s = true) : kO s :=
  ⟨va_AO.of (hts (.arrayOver (.object RX4)) (by decide +kernel)), va_AO.of (hts (.arrayOver (.object RX3)) (by decide +kernel)), va_AO.of (hts (.arrayOver (.object RX2)) (by decide +kernel))⟩
theorem zAt_of {s : State} {b : Nat} {nm : String} {g : Int → Int} (hl : (Cond.laysStatic RX6 nm "[I").before #[Value.ref b] s = true) (hini : (Cond.initialized RX6).before #[Value.ref b] s = true) (harr : (Cond.arrayOf (.static RX6 nm "[I") .int).before #[Value.ref b] s = true) (hlen : (Cond.eq (.length (.static RX6 nm "[I")) (.int 6)).before #[Value.ref b] s = true) (hel : ∀ j : Nat, j < 6 → (Cond.eq (.elem (.static RX6 nm "[I") (.int (Int32.ofNat j))) (.int (zI (g j)))).before #[Value.ref b] s = true) : ∃ t : Nat, zAt s.heap.size nm g t s s.heap := by
  obtain ⟨t, h1, h2⟩ := va_Tof (N := 6) (f := fun k => .int (zI (g k))) (A := fun q => s.heap.size ≤ q) (by decide) harr (va_eqt hlen) (fun j hj => va_eqt (hel j hj)) (fun a h => Nat.not_le.mpr h)
  exact ⟨t, va_Zof hl hini h1 (fun a h => Nat.not_le.mpr h), h2⟩
theorem kZ_of {s : State} {b : Nat} (hts : ∀ w ∈ lw_tbl, w.before #[Value.ref b] s = true) (hgv : (Jvm.Cond.and given_1 narrow_1).before #[Value.ref b] s = true) : kZ s.heap.size s s.heap := by
  have hs := flat_of_before _ hgv
  have hini := hts (.initialized RX6) (by decide +kernel)
  obtain ⟨t0, z0⟩ := zAt_of (nm := "FIRST") (g := fsS) (hts (.laysStatic RX6 "FIRST" "[I") (by decide +kernel)) hini (hs _ (by decide +kernel)) (hs _ (by decide +kernel)) (fun j hj => by
    rcases (show j = 0 ∨ j = 1 ∨ j = 2 ∨ j = 3 ∨ j = 4 ∨ j = 5 by omega) with h | h | h | h | h | h <;> subst h <;> exact hs _ (by decide +kernel))
  obtain ⟨t1, z1⟩ := zAt_of (nm := "LOWEST") (g := loS) (hts (.laysStatic RX6 "LOWEST" "[I") (by decide +kernel)) hini (hs _ (by decide +kernel)) (hs _ (by decide +kernel)) (fun j hj => by
    rcases (show j = 0 ∨ j = 1 ∨ j = 2 ∨ j = 3 ∨ j = 4 ∨ j = 5 by omega) with h | h | h | h | h | h <;> subst h <;> exact hs _ (by decide +kernel))
  obtain ⟨t2, z2⟩ := zAt_of (nm := "HIGHEST") (g := hiS) (hts (.laysStatic RX6 "HIGHEST" "[I") (by decide +kernel)) hini (hs _ (by decide +kernel)) (hs _ (by decide +kernel)) (fun j hj => by
    rcases (show j = 0 ∨ j = 1 ∨ j = 2 ∨ j = 3 ∨ j = 4 ∨ j = 5 by omega) with h | h | h | h | h | h <;> subst h <;> exact hs _ (by decide +kernel))
  exact ⟨⟨va_Nw.of rfl (hts (.fieldLinkNest RX2 27 RX6 "FIRST" "[I" RX6) (by decide +kernel)), va_Nw.of rfl (hts (.fieldLinkNest RX2 52 RX6 "LOWEST" "[I" RX6) (by decide +kernel)), va_Nw.of rfl (hts (.fieldLinkNest RX2 55 RX6 "HIGHEST" "[I" RX6) (by decide +kernel))⟩, t0, t1, t2, z0, z1, z2⟩
