/-! THE CLAIM OUT OF ONE WALK OF THE LAW'S BODY. Your part is whole_start (and what it stands on); all else here is the same for every law, but numbers. -/
def R_law : String := "EnergyDiscsLaw"
def lw_P (b : Addr) (xs : List Int32) (args : Array Value) (s : State) : Prop := args = #[.ref b] ∧ s.IntsAt b xs ∧ xs.length ≤ 2048 ∧ (Jvm.Cond.and given_1 narrow_1).before args s = true
def lw_Q (_ : Array Value) (s : State) (o : Outcome) (t : State) : Prop := o = .returned (some (.int 1)) ∧ Framed s o t [] 600000 7302250
def lw_Z (below : List Frame) (a : Array Value) (s : State) : State → Prop := fun t => ∃ o, t.status = .running ∧ Ended t below o ∧ lw_Q a s o t
/-- the law's own end, with 1 on the stack, nothing written that was there before, its room as the claim has it -/
theorem lw_ret {p : Program} {l : Launch} {e : Env} {s : State} {m : MethodId} {below : List Frame} {meth : Method} {c : Code} {b : Nat} (hx : p.tables.exec = Jvm.exec) (hb : c.code = code) (hr : meth.sig.returnType = ret) (hlocks : meth.locks = false) {pc : Nat} {H : Heap} {ls : Array Slot} (hdg : decode code pc = .ok (.ireturn, 1)) : W p l e room_1 s m #[Value.ref b] below meth c H [] 600000 7302250 (lw_Z below #[Value.ref b] s) (F0 m pc ls [.int 1]) := by
  intro T hT X
  obtain ⟨fs, hret, hrun, hended, hW, hframe⟩ := X.leave (v := some (.int 1)) (hlocks := hlocks) (fun h => by rw [hr] at h; cases h)
  have hmeth' : T.vm.method? m = some meth := X.method'
  refine ⟨T.setFrames fs, ?_, .returned (some (.int 1)), hrun, hended, rfl, ⟨_, rfl⟩, hW, hframe⟩
  jvm_step X.here [X.here.top, hx, hb, hdg, hmeth', hr, ret, narrow_b1]
  (try refine ⟨rfl, ?_⟩); (try refine ⟨rfl, ?_⟩)
  first | (intro acts; rw [hret _ acts rfl rfl rfl]) | rw [hret _ _ rfl rfl rfl]
  exact Steps.refl _
/-- what holds at the law's entry: the machine, the code, the tables' words (any of lw_tbl by 'hts w (by decide +kernel)'), the script of L ints xs at the cell b, what the Statement gives of the start (any of its parts by flat_of_before) -/
def lw_At (p : Program) (s : State) (m : MethodId) (meth : Method) (c : Code) (b L : Nat) (xs : Nat → Int32) : Prop :=
  p.tables.exec = Jvm.exec ∧ c.code = code ∧ meth.sig.returnType = ret ∧ c.maxLocals = 4 ∧ s.vm.findClass R_law = some m.cls ∧ (∀ w ∈ lw_tbl, w.before #[Value.ref b] s = true) ∧ va_X b L xs s s.heap ∧ b < s.heap.size ∧ meth.locks = false ∧ (Jvm.Cond.and given_1 narrow_1).before #[Value.ref b] s = true
set_option maxHeartbeats 4000000 in
set_option maxRecDepth 100000 in
/-- the law's loop: at its head, j calls done -/
theorem law_loop {p : Program} {l : Launch} {e : Env} {s : State} {m : MethodId} {below : List Frame} {meth : Method} {c : Code} {b L : Nat} {xs : Nat → Int32} {D : va_G} {cs : Nat → ClassId} {a am : Int → Nat} (C0 : LC p l s m meth c b L xs D cs a am) (hr : meth.sig.returnType = ret) (hlocks : meth.locks = false) :
    ∀ (n j : Nat), 4 * j ≤ L → L < 4 * (j + n) → ∀ (H : Heap) (locs : List Loc), LW D cs a am (100 * (j : Int)) H → va_S (fun q : Nat => s.heap.size ≤ q) s.heap H locs → ∀ (ls : Array Slot), lv_has ls 4 [(3, .int (zI (4 * (j : Int)))), (2, .ref (am 0)), (1, .ref (a 0)), (0, .ref b)] → W p l e room_1 s m #[Value.ref b] below meth c H locs 244 3174 (lw_Z below #[Value.ref b] s) (F0 m 18 ls []) := by
  have C1 := C0
  obtain ⟨S, hK, hZ, hX, hbl, ⟨hI, hm⟩, hea, hma, hdis, hL⟩ := C1
  have hx := S.1
  have hb := S.2.1
  have hbA : ¬ (fun q : Nat => s.heap.size ≤ q) b := Nat.not_le.mpr hbl
  intro n
  induction n with
  | zero => intro j h1 h2; exact absurd h2 (by omega)
  | succ n ih =>
    intro j h1 h2 H locs hW hS ls hl
    refine lv_iload_n hx hb dL_law_18 rfl (lv_at hl 0 rfl) ?_
    refine lv_aload_n hx hb dL_law_19 rfl (lv_at hl 3 rfl) ?_
    refine va_slen hx hb hX hbl hbA hS dL_law_20 ?_
    rw [show Int32.ofNat L = zI (L : Int) from Int32.ofInt_eq_ofNat.symm]
    refine x_iconst hx hb dL_law_21 ?_
    refine x_isub hx hb dL_law_22 ?_
    refine x_icmp_gt (tgt := 797) hx hb dL_law_23 (by decide) (by omega) (by omega) (fun c9 => ?_) (fun c9 => ?_)
    · refine x_iconst hx hb dL_law_797 ?_
      refine va_forget (fun q hq => hS.2.2 q hq) ?_
      refine W.widen (k := 600000) (n := 7302250) (Nat.le_of_ble_eq_true rfl) (Nat.le_of_ble_eq_true rfl) ?_
      rw [show zI 1 = 1 from rfl]
      exact lw_ret hx hb hr hlocks dL_law_798
    · have nx : ∀ (H : Heap) (locs : List Loc), LW D cs a am (100 * (j : Int) + 100) H → va_S (fun q : Nat => s.heap.size ≤ q) s.heap H locs → ∀ (ls : Array Slot), lv_has ls 4 [(3, .int (zI (4 * (j : Int)))), (2, .ref (am 0)), (1, .ref (a 0)), (0, .ref b)] → W p l e room_1 s m #[Value.ref b] below meth c H locs 244 3174 (lw_Z below #[Value.ref b] s) (F0 m 791 ls []) := by
        intro H locs hW hS ls hl
        refine x_iinc (x := 4 * (j : Int)) (lv' := [(3, .int (zI (4 * (j : Int) + 4))), (2, .ref (am 0)), (1, .ref (a 0)), (0, .ref b)]) hx hb dL_law_791 hl (k := 0) rfl (by decide) rfl (fun ls hl => ?_)
        refine lv_goto (tgt := 18) hx hb dL_law_794 (by decide) ?_
        refine ih (j + 1) (by omega) (by omega) H locs ?_ hS ls ?_
        · rw [show 100 * ((j + 1 : Nat) : Int) = 100 * (j : Int) + 100 by omega]; exact hW
        · rw [show 4 * ((j + 1 : Nat) : Int) = 4 * (j : Int) + 4 by omega]; exact hl
      refine lv_aload_n hx hb dL_law_26 rfl (lv_at hl 3 rfl) ?_
      refine lv_iload_n hx hb dL_law_27 rfl (lv_at hl 0 rfl) ?_
      refine l_arg hx hb hX hbl hbA hS (i := 4 * (j : Int)) (by omega) hL dL_law_28 ?_
      refine x_bipush hx hb dL_law_29 (by decide +kernel) ?_
      refine lv_iand hx hb dL_law_31 ?_
      refine lv_topi (fun v ev => ?_)
      obtain ⟨w, hwr, rfl⟩ : ∃ z : Int, (-2147483648 ≤ z ∧ z < 2147483648) ∧ v = zI z := ⟨v.toInt, zI_rng v, (zI_of v).symm⟩
      have hN : 0 ≤ 100 * (j : Int) ∧ 100 * (j : Int) ≤ 900000 := by omega
      have hi : 0 ≤ 4 * (j : Int) ∧ 4 * (j : Int) + 3 < L := by omega
      by_cases k0 : w = 0
      · refine x_tabIn (k := 0) (off := 120) (tgt := 152) hx hb dL_law_32 k0 (by decide) (by decide) (by decide) rfl (by decide) ?_
        exact law_set C0 hN hi (fun H locs hW hS => nx H locs hW hS ls hl) hW hS hl
      by_cases k1 : w = 1
      · refine x_tabIn (k := 1) (off := 153) (tgt := 185) hx hb dL_law_32 k1 (by decide) (by decide) (by decide) rfl (by decide) ?_
        exact law_meter C0 hN hi (fun H locs hW hS => nx H locs hW hS ls hl) hW hS hl
      by_cases k2 : w = 2
      · refine x_tabIn (k := 2) (off := 176) (tgt := 208) hx hb dL_law_32 k2 (by decide) (by decide) (by decide) rfl (by decide) ?_
        exact law_load C0 hN hi (fun H locs hW hS => nx H locs hW hS ls hl) hW hS hl
      by_cases k3 : w = 3
      · refine x_tabIn (k := 3) (off := 209) (tgt := 241) hx hb dL_law_32 k3 (by decide) (by decide) (by decide) rfl (by decide) ?_
        exact law_turn C0 hN hi (fun H locs hW hS => nx H locs hW hS ls hl) hW hS hl
      by_cases k4 : w = 4
      · refine x_tabIn (k := 4) (off := 232) (tgt := 264) hx hb dL_law_32 k4 (by decide) (by decide) (by decide) rfl (by decide) ?_
        exact law_tamper C0 hN hi (fun H locs hW hS => nx H locs hW hS ls hl) hW hS hl
      by_cases k5 : w = 5
      · refine x_tabIn (k := 5) (off := 255) (tgt := 287) hx hb dL_law_32 k5 (by decide) (by decide) (by decide) rfl (by decide) ?_
        exact law_visit C0 hN hi (fun H locs hW hS => nx H locs hW hS ls hl) hW hS hl
      by_cases k6 : w = 6
      · refine x_tabIn (k := 6) (off := 278) (tgt := 310) hx hb dL_law_32 k6 (by decide) (by decide) (by decide) rfl (by decide) ?_
        exact law_pass C0 hN hi (fun H locs hW hS => nx H locs hW hS ls hl) hW hS hl
      by_cases k7 : w = 7
      · refine x_tabIn (k := 7) (off := 301) (tgt := 333) hx hb dL_law_32 k7 (by decide) (by decide) (by decide) rfl (by decide) ?_
        exact law_write C0 hN hi (fun H locs hW hS => nx H locs hW hS ls hl) hW hS hl
      by_cases k8 : w = 8
      · refine x_tabIn (k := 8) (off := 324) (tgt := 356) hx hb dL_law_32 k8 (by decide) (by decide) (by decide) rfl (by decide) ?_
        exact law_sign C0 hN hi (fun H locs hW hS => nx H locs hW hS ls hl) hW hS hl
      by_cases k9 : w = 9
      · refine x_tabIn (k := 9) (off := 347) (tgt := 379) hx hb dL_law_32 k9 (by decide) (by decide) (by decide) rfl (by decide) ?_
        exact law_of C0 hN hi (fun H locs hW hS => nx H locs hW hS ls hl) hW hS hl
      by_cases k10 : w = 10
      · refine x_tabIn (k := 10) (off := 380) (tgt := 412) hx hb dL_law_32 k10 (by decide) (by decide) (by decide) rfl (by decide) ?_
        exact law_ofLoad C0 hN hi (fun H locs hW hS => nx H locs hW hS ls hl) hW hS hl
      by_cases k11 : w = 11
      · refine x_tabIn (k := 11) (off := 413) (tgt := 445) hx hb dL_law_32 k11 (by decide) (by decide) (by decide) rfl (by decide) ?_
        exact law_misses C0 hN hi (fun H locs hW hS => nx H locs hW hS ls hl) hW hS hl
      by_cases k12 : w = 12
      · refine x_tabIn (k := 12) (off := 437) (tgt := 469) hx hb dL_law_32 k12 (by decide) (by decide) (by decide) rfl (by decide) ?_
        exact law_fed C0 hN hi (fun H locs hW hS => nx H locs hW hS ls hl) hW hS hl
      by_cases k13 : w = 13
      · refine x_tabIn (k := 13) (off := 460) (tgt := 492) hx hb dL_law_32 k13 (by decide) (by decide) (by decide) rfl (by decide) ?_
        exact law_count C0 hN hi (fun H locs hW hS => nx H locs hW hS ls hl) hW hS hl
      by_cases k14 : w = 14
      · refine x_tabIn (k := 14) (off := 483) (tgt := 515) hx hb dL_law_32 k14 (by decide) (by decide) (by decide) rfl (by decide) ?_
        exact law_bill C0 hN hi (fun H locs hW hS => nx H locs hW hS ls hl) hW hS hl
      by_cases k15 : w = 15
      · refine x_tabIn (k := 15) (off := 506) (tgt := 538) hx hb dL_law_32 k15 (by decide) (by decide) (by decide) rfl (by decide) ?_
        exact law_turnsIn C0 hN hi (fun H locs hW hS => nx H locs hW hS ls hl) hW hS hl
      by_cases k16 : w = 16
      · refine x_tabIn (k := 16) (off := 529) (tgt := 561) hx hb dL_law_32 k16 (by decide) (by decide) (by decide) rfl (by decide) ?_
        exact law_wouldTurn C0 hN hi (fun H locs hW hS => nx H locs hW hS ls hl) hW hS hl
      by_cases k17 : w = 17
      · refine x_tabIn (k := 17) (off := 572) (tgt := 604) hx hb dL_law_32 k17 (by decide) (by decide) (by decide) rfl (by decide) ?_
        exact law_worst C0 hN hi (fun H locs hW hS => nx H locs hW hS ls hl) hW hS hl
      by_cases k18 : w = 18
      · refine x_tabIn (k := 18) (off := 585) (tgt := 617) hx hb dL_law_32 k18 (by decide) (by decide) (by decide) rfl (by decide) ?_
        exact law_lags C0 hN hi (fun H locs hW hS => nx H locs hW hS ls hl) hW hS hl
      by_cases k19 : w = 19
      · refine x_tabIn (k := 19) (off := 608) (tgt := 640) hx hb dL_law_32 k19 (by decide) (by decide) (by decide) rfl (by decide) ?_
        exact law_put C0 hN hi (fun H locs hW hS => nx H locs hW hS ls hl) hW hS hl
      by_cases k20 : w = 20
      · refine x_tabIn (k := 20) (off := 661) (tgt := 693) hx hb dL_law_32 k20 (by decide) (by decide) (by decide) rfl (by decide) ?_
        exact law_wipe C0 hN hi (fun H locs hW hS => nx H locs hW hS ls hl) hW hS hl
      by_cases k21 : w = 21
      · refine x_tabIn (k := 21) (off := 674) (tgt := 706) hx hb dL_law_32 k21 (by decide) (by decide) (by decide) rfl (by decide) ?_
        exact law_fault C0 hN hi (fun H locs hW hS => nx H locs hW hS ls hl) hW hS hl
      by_cases k22 : w = 22
      · refine x_tabIn (k := 22) (off := 687) (tgt := 719) hx hb dL_law_32 k22 (by decide) (by decide) (by decide) rfl (by decide) ?_
        exact law_carryOut C0 hN hi (fun H locs hW hS => nx H locs hW hS ls hl) hW hS hl
      by_cases k23 : w = 23
      · refine x_tabIn (k := 23) (off := 700) (tgt := 732) hx hb dL_law_32 k23 (by decide) (by decide) (by decide) rfl (by decide) ?_
        exact law_undo C0 hN hi (fun H locs hW hS => nx H locs hW hS ls hl) hW hS hl
      by_cases k24 : w = 24
      · refine x_tabIn (k := 24) (off := 713) (tgt := 745) hx hb dL_law_32 k24 (by decide) (by decide) (by decide) rfl (by decide) ?_
        exact law_save C0 hN hi (fun H locs hW hS => nx H locs hW hS ls hl) hW hS hl
      by_cases k25 : w = 25
      · refine x_tabIn (k := 25) (off := 736) (tgt := 768) hx hb dL_law_32 k25 (by decide) (by decide) (by decide) rfl (by decide) ?_
        exact law_restore C0 hN hi (fun H locs hW hS => nx H locs hW hS ls hl) hW hS hl
      refine x_tabOut (tgt := 791) hx hb dL_law_32 (by omega) hwr (by decide) ?_
      exact nx H locs (LW_mono hW (by omega)) hS ls hl
