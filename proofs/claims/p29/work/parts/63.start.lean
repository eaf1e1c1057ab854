theorem kK_of {s : State} {b : Nat} (hts : ∀ w ∈ lw_tbl, w.before #[Value.ref b] s = true) : ∃ (D : va_G) (cs : Nat → ClassId), kK D cs s := by
  obtain ⟨c1, i1, k1⟩ := u_known (C := RX1) (T := TX1) (N := 3) (n := 3) hts inX1 (hts (.instantiable RX1 3) (by decide +kernel))
  obtain ⟨c2, i2, k2⟩ := u_known (C := RX2) (T := TX2) (N := 7) (n := 7) hts inX2 (hts (.instantiable RX2 7) (by decide +kernel))
  obtain ⟨c3, i3, k3⟩ := u_known (C := RX3) (T := TX3) (N := 3) (n := 3) hts inX3 (hts (.instantiable RX3 3) (by decide +kernel))
  obtain ⟨c4, i4, k4⟩ := u_known (C := RX4) (T := TX4) (N := 13) (n := 13) hts inX4 (hts (.instantiable RX4 13) (by decide +kernel))
  obtain ⟨c5, i5, k5⟩ := u_known (C := RX5) (T := TX5) (N := 2) (n := 2) hts inX5 (hts (.instantiable RX5 2) (by decide +kernel))
  obtain ⟨c6, i6, k6⟩ := u_known (C := RX6) (T := TX6) (N := 6) (n := 6) hts inX6 (hts (.instantiable RX6 6) (by decide +kernel))
  obtain ⟨a0, r0⟩ := arrP (ty := .int) (fun C h => by cases h) (hts (.arrayClass .int) (by decide +kernel))
  obtain ⟨a2, r2⟩ := arrP (ty := .boolean) (fun C h => by cases h) (hts (.arrayClass .boolean) (by decide +kernel))
  obtain ⟨a3, r3⟩ := arrP (ty := .char) (fun C h => by cases h) (hts (.arrayClass .char) (by decide +kernel))
  obtain ⟨a4, r4⟩ := arrQ (C := RX4) (hts (.arrayOver (.object RX4)) (by decide +kernel))
  obtain ⟨a5, r5⟩ := arrQ (C := RX3) (hts (.arrayOver (.object RX3)) (by decide +kernel))
  obtain ⟨a6, r6⟩ := arrQ (C := RX2) (hts (.arrayOver (.object RX2)) (by decide +kernel))
  refine ⟨(fun k => match k with | 0 => c1 | 1 => c2 | 2 => c3 | 3 => c4 | 4 => c5 | _ => c6, fun k => match k with | 0 => i1 | 1 => i2 | 2 => i3 | 3 => i4 | 4 => i5 | _ => i6), fun k => match k with | 0 => a0 | 1 => a0 | 2 => a2 | 3 => a3 | 4 => a4 | 5 => a5 | _ => a6, ⟨?_, ?_⟩, ?_⟩
  · intro k q hq
    match k, hq with
    | 0, hq => cases hq; exact k1
    | 1, hq => cases hq; exact k2
    | 2, hq => cases hq; exact k3
    | 3, hq => cases hq; exact k4
    | 4, hq => cases hq; exact k5
    | 5, hq => cases hq; exact k6
    | k + 6, hq => simp at hq
  · intro k q hq
    match k, hq with
    | 0, hq => cases hq; exact r0
    | 1, hq => cases hq; exact r0
    | 2, hq => cases hq; exact r2
    | 3, hq => cases hq; exact r3
    | 4, hq => cases hq; exact r4
    | 5, hq => cases hq; exact r5
    | 6, hq => cases hq; exact r6
    | k + 7, hq => simp at hq
  · exact ⟨va_Nw.of rfl (hts (.methodLinkNest RX2 101 yX6_minutesToSwitch RX6) (by decide +kernel)), va_Nw.of rfl (hts (.methodLinkNest RX2 116 yX6_isNight RX6) (by decide +kernel))⟩
theorem SM_0 : SM 0 sM0 hT0 := by
  have hi : ∀ i : Int, sM0 i = if i = 5 then 5 else if i = 4 then 9 else if i = 3 then 1000 else if i = 2 then 1 else if i = 1 then 2 else if i = 0 then 15 else 0 := fun i => rfl
  have h0 : ∀ i : Int, 6 ≤ i → sM0 i = 0 := fun i h => by
    rw [hi, if_neg (by omega), if_neg (by omega), if_neg (by omega), if_neg (by omega), if_neg (by omega), if_neg (by omega)]
  have e7 : sM0 7 = 0 := h0 7 (by decide)
  have e8 : sM0 8 = 0 := h0 8 (by decide)
  have e6 : sM0 6 = 0 := h0 6 (by decide)
  have e0 : sM0 0 = 15 := rfl
  have e1 : sM0 1 = 2 := rfl
  have e2 : sM0 2 = 1 := rfl
  have e3 : sM0 3 = 1000 := rfl
  have e4 : sM0 4 = 9 := rfl
  have e5 : sM0 5 = 5 := rfl
  have hL : lOK sM0 := ⟨by rw [e7]; omega, by rw [e8]; omega, fun i p q => by rw [e7] at q; omega, fun j p q => by rw [e8] at q; omega⟩
  have hG : gOK sM0 0 := ⟨hL, ⟨by show 0 ≤ sM0 0 ∧ sM0 0 ≤ 99; omega, by show 0 ≤ sM0 1 ∧ sM0 1 ≤ 9; omega, by show sM0 2 = 0 ∨ sM0 2 = 1; omega, by show 100 ≤ sM0 3 ∧ sM0 3 ≤ 5000; omega, by show 0 ≤ sM0 6 ∧ sM0 6 < 1000000; omega⟩, fun k p q => by rw [e7] at q; omega⟩
  have hF : fOK 0 sM0 := ⟨hG, by omega, by omega, by omega, by rw [h0 10 (by decide)]; omega, fun q => by rw [e7] at q; omega, fun k p q => by rw [e7] at q; omega⟩
  have hB : BS sM0 := by
    show sM0 9 = blC sM0 (sM0 7).toNat
    rw [e7, h0 9 (by decide)]; rfl
  have hE : LE sM0 hT0 := ⟨fun i h => by
    have hi2 : (0 ≤ i ∧ i < 9) ∨ i = 10 := by
      rcases h with h | h | h | h
      · exact Or.inl h
      · exact Or.inr h
      · rw [e7] at h; omega
      · rw [e8] at h; omega
    by_cases q : i < 6
    · rcases (show i = 0 ∨ i = 1 ∨ i = 2 ∨ i = 3 ∨ i = 4 ∨ i = 5 by omega) with z | z | z | z | z | z <;> subst z <;> rfl
    · rw [h0 i (by omega)]
      unfold hT0
      rw [if_neg q, if_pos (by omega)], fun q => by rw [e7] at q; omega⟩
  exact ⟨hF, hB, hE⟩
section LE9
variable {p : Program} {l : Launch} {e : Env} {R : Room} {s : State} {m : MethodId} {args : Array Value} {below : List Frame} {meth : Method} {c : Code} {H : Heap} {locs : List Loc} {cells slots : Nat} {Q : State → Prop} {cc : ByteArray} {pc : Nat} {ls : Array Slot} {rest : List Value} {D : va_G} {cs : Nat → ClassId}
theorem x_icmp_neE (hx : p.tables.exec = Jvm.exec) (hb : c.code = cc) {a b : Int} {off : Int} {tgt : Nat} (d : decode cc pc = .ok (.if_icmp .ne off, 3)) (ht : (pc : Int) + off = (tgt : Int)) (h : a = b) (k : W p l e R s m args below meth c H locs cells slots Q (F0 m (pc + 3) ls rest)) : W p l e R s m args below meth c H locs cells slots Q (F0 m pc ls (.int (zI b) :: .int (zI a) :: rest)) := by
  subst h
  exact lv_icmp_ne hx hb d ht (fun q => absurd rfl q) (fun _ => k)
theorem x_icmp_eqE (hx : p.tables.exec = Jvm.exec) (hb : c.code = cc) {a b : Int} {off : Int} {tgt : Nat} (d : decode cc pc = .ok (.if_icmp .eq off, 3)) (ht : (pc : Int) + off = (tgt : Int)) (h : a = b) (k : W p l e R s m args below meth c H locs cells slots Q (F0 m tgt ls rest)) : W p l e R s m args below meth c H locs cells slots Q (F0 m pc ls (.int (zI b) :: .int (zI a) :: rest)) := by
  subst h
  exact lv_icmp_eq hx hb d ht (fun _ => k) (fun q => absurd rfl q)
theorem x_if_neE (hx : p.tables.exec = Jvm.exec) (hb : c.code = cc) {a : Int} {off : Int} {tgt : Nat} (d : decode cc pc = .ok (.ifCond .ne off, 3)) (ht : (pc : Int) + off = (tgt : Int)) (h : a = 0) (k : W p l e R s m args below meth c H locs cells slots Q (F0 m (pc + 3) ls rest)) : W p l e R s m args below meth c H locs cells slots Q (F0 m pc ls (.int (zI a) :: rest)) := by
  subst h
  exact x_if_ne hx hb d ht (by decide) (fun q => absurd rfl q) (fun _ => k)
theorem x_if_eqE (hx : p.tables.exec = Jvm.exec) (hb : c.code = cc) {a : Int} {off : Int} {tgt : Nat} (d : decode cc pc = .ok (.ifCond .eq off, 3)) (ht : (pc : Int) + off = (tgt : Int)) (h : a = 0) (k : W p l e R s m args below meth c H locs cells slots Q (F0 m tgt ls rest)) : W p l e R s m args below meth c H locs cells slots Q (F0 m pc ls (.int (zI a) :: rest)) := by
  subst h
  exact x_if_eq hx hb d ht (by decide) (fun _ => k) (fun q => absurd rfl q)
theorem cmp_self (x : Int64) : lg_cmp x x = 0 := by
  unfold lg_cmp
  split
  · rename_i h; exact (Int64.lt_irrefl h).elim
  · rw [if_pos rfl]
theorem x_lcmp_neE (hx : p.tables.exec = Jvm.exec) (hb : c.code = cc) {a b : Int} {off : Int} {tgt : Nat} (d1 : decode cc pc = .ok (.lcmp, 1)) (d : decode cc (pc + 1) = .ok (.ifCond .ne off, 3)) (ht : (pc : Int) + 1 + off = (tgt : Int)) (h : a = b) (k : W p l e R s m args below meth c H locs cells slots Q (F0 m (pc + 4) ls rest)) : W p l e R s m args below meth c H locs cells slots Q (F0 m pc ls (.long (zL b) :: .long (zL a) :: rest)) := by
  subst h
  refine W.lcmp hx hb d1 ?_
  rw [cmp_self, show (0 : Int32) = zI 0 from rfl]
  exact x_if_neE (pc := pc + 1) (tgt := tgt) hx hb d (by omega) rfl k
theorem x_zretM (hx : p.tables.exec = Jvm.exec) (hb : c.code = cc) (hr : meth.sig.returnType = some .boolean) (hlocks : meth.locks = false) {B : Heap → Prop} {A : Nat → Prop} {e0 e1 : Int} (he : e0 = e1) (h01 : e0 = 0 ∨ e0 = 1) (hB : B H) (hS : va_S A s.heap H locs) (d : decode cc pc = .ok (.ireturn, 1)) : W p l e R s m args below meth c H locs 0 0 (MQ below (kQ (some (.int (zI e1))) B A) args s 0 0 A) (F0 m pc ls [.int (zI e0)]) := by
  subst he
  exact W.zret (v := zI e0) hx hb hr (by rcases h01 with h | h <;> subst h <;> rfl) (fun t ht _ => ⟨rfl, by rw [ht]; exact hB, hS.F ht⟩) hS.2.2 d hlocks
theorem zI_and31 (z : Int) : zI z &&& zI 2147483647 = zI (z % 2147483648) := by
  apply Int32.toBitVec.inj
  rw [Int32.toBitVec_and]
  apply BitVec.eq_of_toNat_eq
  rw [BitVec.toNat_and]
  show (BitVec.ofInt 32 z).toNat &&& (BitVec.ofInt 32 2147483647).toNat = (BitVec.ofInt 32 (z % 2147483648)).toNat
  rw [show (BitVec.ofInt 32 2147483647).toNat = 2 ^ 31 - 1 from by decide, Nat.and_two_pow_sub_one_eq_mod, BitVec.toNat_ofInt, BitVec.toNat_ofInt]
  omega
theorem x_iand31 (hx : p.tables.exec = Jvm.exec) (hb : c.code = cc) {y : Int} (d : decode cc pc = .ok (.iand, 1)) (kk : W p l e R s m args below meth c H locs cells slots Q (F0 m (pc + 1) ls (.int (zI (y % 2147483648)) :: rest))) : W p l e R s m args below meth c H locs cells slots Q (F0 m pc ls (.int (zI 2147483647) :: .int (zI y) :: rest)) := lv_iand hx hb d (by rw [zI_and31]; exact kk)
end LE9
