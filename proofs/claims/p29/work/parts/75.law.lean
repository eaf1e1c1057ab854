def R_law : String := "EnergyDiscsLaw"
def lw_P (b : Addr) (xs : List Int32) (args : Array Value) (s : State) : Prop := args = #[.ref b] ∧ s.IntsAt b xs ∧ xs.length ≤ 260 ∧ (Jvm.Cond.and given_1 narrow_1).before args s = true
def lw_Q (_ : Array Value) (s : State) (o : Outcome) (t : State) : Prop := o = .returned (some (.int 1)) ∧ Framed s o t [] 600000 7302250
def lw_Z (below : List Frame) (a : Array Value) (s : State) : State → Prop := fun t => ∃ o, t.status = .running ∧ Ended t below o ∧ lw_Q a s o t
/-- the law's own end, with 1 on the stack, nothing written that was there before, its room as the claim has it -/
theorem lw_ret {p : Program} {l : Launch} {e : Env} {s : State} {m : MethodId} {below : List Frame} {meth : Method} {c : Code} {b : Nat} (hx : p.tables.exec = Jvm.exec) (hb : c.code = code) (hr : meth.sig.returnType = ret) (hlocks : meth.locks = false) {pc : Nat} {H : Heap} {ls : Array Slot} (hdg : decode code pc = .ok (.ireturn, 1)) : W p l e room_1 s m #[Value.ref b] below meth c H [] 600000 7302250 (lw_Z below #[Value.ref b] s) (F0 m pc ls [.int 1]) := by
  intro T hT X
  obtain ⟨fs, hret, hrun, hended, hW, hframe⟩ := X.leave (v := some (.int 1)) (hlocks := hlocks) (fun h => by rw [hr] at h; cases h)
  have hmeth' : T.vm.method? m = some meth := X.method'
  refine ⟨T.setFrames fs, ?_, .returned (some (.int 1)), hrun, hended, rfl, ⟨_, rfl⟩, hW, hframe⟩
  jvm_step X.here [X.here.top, hx, hb, hdg, hmeth', hr, ret, narrow_b1]
  (try refine ⟨rfl, ?_⟩); (try refine ⟨rfl, ?_⟩)
  first | (intro acts; rw [hret _ acts rfl rfl rfl]) | rw [hret _ _ rfl rfl rfl]
  exact Steps.refl _
/-- what holds at the law's entry: the machine, the code, the tables' words (any of lw_tbl by 'hts w (by decide +kernel)'), the script of L ints xs at the cell b, what the Statement gives of the start (any of its parts by flat_of_before) -/
def lw_At (p : Program) (s : State) (m : MethodId) (meth : Method) (c : Code) (b L : Nat) (xs : Nat → Int32) : Prop :=
  p.tables.exec = Jvm.exec ∧ c.code = code ∧ meth.sig.returnType = ret ∧ c.maxLocals = 3 ∧ s.vm.findClass R_law = some m.cls ∧ (∀ w ∈ lw_tbl, w.before #[Value.ref b] s = true) ∧ va_X b L xs s s.heap ∧ b < s.heap.size ∧ meth.locks = false ∧ (Jvm.Cond.and given_1 narrow_1).before #[Value.ref b] s = true

def LC (p : Program) (l : Launch) (s : State) (m : MethodId) (meth : Method) (c : Code) (b L : Nat) (xs : Nat → Int32) (D : va_G) (cs : Nat → ClassId) (a : Int → Nat) : Prop :=
  CallFix p m c cL_law 3 s #[Value.ref b] wsL_law RL ∧ kK D cs s ∧ kZ s.heap.size s s.heap ∧ va_X b L xs s s.heap ∧ b < s.heap.size ∧ eI a ∧ (∀ q, eC a q → s.heap.size ≤ q) ∧ L ≤ 260
set_option maxHeartbeats 4000000 in
set_option maxRecDepth 100000 in
theorem law_end {p : Program} {l : Launch} {e : Env} {s : State} {m : MethodId} {below : List Frame} {meth : Method} {c : Code} {b L : Nat} {xs : Nat → Int32} {D : va_G} {cs : Nat → ClassId} {a : Int → Nat} (C0 : LC p l s m meth c b L xs D cs a) (hr : meth.sig.returnType = ret) (hlocks : meth.locks = false) {τ pd : Int → Int} {ln N : Int} (hG : GD N τ) {H : Heap} {locs : List Loc} (hW : PW D cs a τ pd ln H) (hS : va_S (fun q : Nat => s.heap.size ≤ q) s.heap H locs) {ls : Array Slot} (hl : lv_has ls 3 [(1, .ref (a 0)), (0, .ref b)]) : W p l e room_1 s m #[Value.ref b] below meth c H locs 238 1705 (lw_Z below #[Value.ref b] s) (F0 m 109 ls []) := by
  obtain ⟨S, hK, hZ, hX, hbl, hI, hea, hL⟩ := C0
  have hx := S.1
  have hb := S.2.1
  have hown := S.2.2.2.1
  have hts := S.2.2.2.2
  have hN : ∀ q : Nat, (fun q : Nat => s.heap.size ≤ q) q → s.heap.size ≤ q := fun q h => h
  have h7 := gd_7 hG
  have h8 := gd_8 hG
  have h6 := gd_6 hG
  have hw1 : wnP τ 1441 = -2 := by unfold wnP; rw [if_pos (by omega)]
  refine lv_aload_n hx hb dL_law_109 rfl (lv_at hl 0 rfl) ?_
  refine x_bipush hx hb dL_law_110 (by decide +kernel) ?_
  refine x_iconst hx hb dL_law_112 ?_
  refine x_callVMz (As := [.int (zI 6), .int (zI 1)]) (rest := []) S hK (kZ.keptS hZ hS hN) (p_set_bad l D cs a τ pd ln 6 1 _ (by exact hG) (by exact hI) (by omega) (by omega) (by intro q; have := q.1; omega) (by exact hea)) (cwV 2 hts gL_law_X6_set rfl rfl rfl (by decide +kernel) ⟨(Nat.le_of_ble_eq_true rfl), (Nat.le_of_ble_eq_true rfl)⟩) (PW_rc hK hW) hW rfl hl.1 (Nat.le_of_ble_eq_true rfl) dL_law_113 ⟨(Nat.le_of_ble_eq_true rfl), (Nat.le_of_ble_eq_true rfl)⟩ hS hea (fun H locs hB hF hS => ?_)
  have hW : PW D cs a τ pd ln H := hB
  refine x_bipush hx hb dL_law_116 (by decide +kernel) ?_
  refine x_icmp_ne (tgt := 180) hx hb dL_law_118 (by decide) (by decide) (by decide) (fun q => absurd q (by decide)) (fun _ => ?_)
  refine lv_aload_n hx hb dL_law_121 rfl (lv_at hl 0 rfl) ?_
  refine x_iconst hx hb dL_law_122 ?_
  refine x_bipush hx hb dL_law_123 (by decide +kernel) ?_
  refine x_callVMz (As := [.int (zI 3), .int (zI 99)]) (rest := []) S hK (kZ.keptS hZ hS hN) (p_set_bad l D cs a τ pd ln 3 99 _ (by exact hG) (by exact hI) (by omega) (by omega) (by intro q; have q2 := q.2; unfold loS at q2; rw [if_pos rfl] at q2; omega) (by exact hea)) (cwV 2 hts gL_law_X6_set rfl rfl rfl (by decide +kernel) ⟨(Nat.le_of_ble_eq_true rfl), (Nat.le_of_ble_eq_true rfl)⟩) (PW_rc hK hW) hW rfl hl.1 (Nat.le_of_ble_eq_true rfl) dL_law_125 ⟨(Nat.le_of_ble_eq_true rfl), (Nat.le_of_ble_eq_true rfl)⟩ hS hea (fun H locs hB hF hS => ?_)
  have hW : PW D cs a τ pd ln H := hB
  refine x_bipush hx hb dL_law_128 (by decide +kernel) ?_
  refine x_icmp_ne (tgt := 180) hx hb dL_law_130 (by decide) (by decide) (by decide) (fun q => absurd q (by decide)) (fun _ => ?_)
  refine lv_aload_n hx hb dL_law_133 rfl (lv_at hl 0 rfl) ?_
  refine x_sipush hx hb dL_law_134 (by decide +kernel) ?_
  refine x_callVM (As := [.int (zI 1441)]) (rest := []) S hK (p_pass_bad l D cs a τ pd ln 1441 (by exact hG) (by exact hI) (by omega) (by rw [hw1]; decide)) (cwV 1 hts gL_law_X6_pass rfl rfl rfl (by decide +kernel) ⟨(Nat.le_of_ble_eq_true rfl), (Nat.le_of_ble_eq_true rfl)⟩) (PW_rc hK hW) hW rfl hl.1 (Nat.le_of_ble_eq_true rfl) dL_law_137 ⟨(Nat.le_of_ble_eq_true rfl), (Nat.le_of_ble_eq_true rfl)⟩ hS hea (fun H locs hB hF hS => ?_)
  have hW : PW D cs a τ pd ln H := hB
  refine x_bipush hx hb dL_law_140 (by decide +kernel) ?_
  refine x_icmp_neE (tgt := 180) hx hb dL_law_142 (by decide) (by exact hw1) ?_
  refine lv_aload_n hx hb dL_law_145 rfl (lv_at hl 0 rfl) ?_
  refine x_bipush hx hb dL_law_146 (by decide +kernel) ?_
  refine x_callVR (As := [.int (zI 17)]) (rest := []) S hK (p_count_17 l D cs a τ pd ln (by exact hG)) (cwV 1 hts gL_law_X6_count rfl rfl rfl (by decide +kernel) ⟨(Nat.le_of_ble_eq_true rfl), (Nat.le_of_ble_eq_true rfl)⟩) (PW_rc hK hW) hW rfl hl.1 (Nat.le_of_ble_eq_true rfl) dL_law_148 ⟨(Nat.le_of_ble_eq_true rfl), (Nat.le_of_ble_eq_true rfl)⟩ ?_
  refine x_bipush hx hb dL_law_151 (by decide +kernel) ?_
  refine x_icmp_ne (tgt := 180) hx hb dL_law_153 (by decide) (by decide) (by decide) (fun q => absurd q (by decide)) (fun _ => ?_)
  refine lv_aload_n hx hb dL_law_156 rfl (lv_at hl 0 rfl) ?_
  refine x_bipush hx hb dL_law_157 (by decide +kernel) ?_
  refine x_callVM (As := [.int (zI 12)]) (rest := []) S hK (p_turn_bad l D cs a τ pd ln 12 (by exact hG) (by exact hI) (by omega) (by omega)) (cwV 1 hts gL_law_X6_turn rfl rfl rfl (by decide +kernel) ⟨(Nat.le_of_ble_eq_true rfl), (Nat.le_of_ble_eq_true rfl)⟩) (PW_rc hK hW) hW rfl hl.1 (Nat.le_of_ble_eq_true rfl) dL_law_159 ⟨(Nat.le_of_ble_eq_true rfl), (Nat.le_of_ble_eq_true rfl)⟩ hS hea (fun H locs hB hF hS => ?_)
  have hW : PW D cs a τ pd ln H := hB
  refine x_iconst hx hb dL_law_162 ?_
  refine x_icmp_ne (tgt := 180) hx hb dL_law_163 (by decide) (by decide) (by decide) (fun q => absurd q (by decide)) (fun _ => ?_)
  refine lv_aload_n hx hb dL_law_166 rfl (lv_at hl 0 rfl) ?_
  refine x_bipush hx hb dL_law_167 (by decide +kernel) ?_
  refine x_callVR (As := [.int (zI 7)]) (rest := []) S hK (p_fed_bad l D cs a τ pd ln 7 (by exact hG) (by omega) (by omega)) (cwV 1 hts gL_law_X6_fed rfl rfl rfl (by decide +kernel) ⟨(Nat.le_of_ble_eq_true rfl), (Nat.le_of_ble_eq_true rfl)⟩) (PW_rc hK hW) hW rfl hl.1 (Nat.le_of_ble_eq_true rfl) dL_law_169 ⟨(Nat.le_of_ble_eq_true rfl), (Nat.le_of_ble_eq_true rfl)⟩ ?_
  refine x_iconst hx hb dL_law_172 ?_
  refine x_icmp_ne (tgt := 180) hx hb dL_law_173 (by decide) (by decide) (by decide) (fun q => absurd q (by decide)) (fun _ => ?_)
  refine x_iconst hx hb dL_law_176 ?_
  refine lv_goto (tgt := 181) hx hb dL_law_177 (by decide) ?_
  refine va_forget (fun q hq => hS.2.2 q hq) ?_
  refine W.widen (k := 600000) (n := 7302250) (Nat.le_of_ble_eq_true rfl) (Nat.le_of_ble_eq_true rfl) ?_
  rw [show zI 1 = 1 from rfl]
  exact lw_ret hx hb hr hlocks dL_law_181

set_option maxHeartbeats 4000000 in
set_option maxRecDepth 100000 in
/-- the law's loop: at its head, j turns done -/
theorem law_loop {p : Program} {l : Launch} {e : Env} {s : State} {m : MethodId} {below : List Frame} {meth : Method} {c : Code} {b L : Nat} {xs : Nat → Int32} {D : va_G} {cs : Nat → ClassId} {a : Int → Nat} (C0 : LC p l s m meth c b L xs D cs a) (hr : meth.sig.returnType = ret) (hlocks : meth.locks = false) :
    ∀ (n j : Nat), j ≤ 90 → 90 < j + n → ∀ (H : Heap) (locs : List Loc), DW D cs a j (700 * (j : Int)) H → va_S (fun q : Nat => s.heap.size ≤ q) s.heap H locs → ∀ (ls : Array Slot), lv_has ls 3 [(2, .int (zI (j : Int))), (1, .ref (a 0)), (0, .ref b)] → W p l e room_1 s m #[Value.ref b] below meth c H locs 238 1705 (lw_Z below #[Value.ref b] s) (F0 m 58 ls []) := by
  have C1 := C0
  obtain ⟨S, hK, hZ, hX, hbl, hI, hea, hL⟩ := C1
  have hx := S.1
  have hb := S.2.1
  have hts := S.2.2.2.2
  have hbA : ¬ (fun q : Nat => s.heap.size ≤ q) b := Nat.not_le.mpr hbl
  have hN : ∀ q : Nat, (fun q : Nat => s.heap.size ≤ q) q → s.heap.size ≤ q := fun q h => h
  intro n
  induction n with
  | zero => intro j h1 h2; exact absurd h2 (by omega)
  | succ n ih =>
    intro j h1 h2 H locs hD hS ls hl
    obtain ⟨τ, pd, ln, hW, hG, hT⟩ := hD
    refine lv_iload_n hx hb dL_law_58 rfl (lv_at hl 0 rfl) ?_
    refine x_bipush hx hb dL_law_59 (by decide +kernel) ?_
    refine x_icmp_ge (tgt := 109) hx hb dL_law_61 (by decide) (by omega) (by omega) (fun c9 => ?_) (fun c9 => ?_)
    · exact law_end C0 hr hlocks hG hW hS (lv_sub hl [1, 2] rfl)
    · refine lv_aload_n hx hb dL_law_64 rfl (lv_at hl 1 rfl) ?_
      refine lv_aload_n hx hb dL_law_65 rfl (lv_at hl 2 rfl) ?_
      refine x_iconst hx hb dL_law_66 ?_
      refine lv_iload_n hx hb dL_law_67 rfl (lv_at hl 0 rfl) ?_
      refine x_imul hx hb dL_law_68 ?_
      refine x_callSX (As := [.ref b, .int (zI (2 * (j : Int)))]) (rest := [.ref (a 0)]) S (l_cell l b L xs (2 * (j : Int)) hL (by omega)) (va_cwS 2 hts gL_law_L_cell rfl rfl rfl (by decide +kernel) ⟨(Nat.le_of_ble_eq_true rfl), (Nat.le_of_ble_eq_true rfl)⟩) (va_X.kept hX (hS.2.1 b hbl hbA)) rfl hl.1 (Nat.le_of_ble_eq_true rfl) dL_law_69 ⟨(Nat.le_of_ble_eq_true rfl), (Nat.le_of_ble_eq_true rfl)⟩ ?_
      refine lv_aload_n hx hb dL_law_72 rfl (lv_at hl 2 rfl) ?_
      refine x_iconst hx hb dL_law_73 ?_
      refine lv_iload_n hx hb dL_law_74 rfl (lv_at hl 0 rfl) ?_
      refine x_imul hx hb dL_law_75 ?_
      refine x_iconst hx hb dL_law_76 ?_
      refine x_iadd hx hb dL_law_77 ?_
      refine x_callSX (As := [.ref b, .int (zI (2 * (j : Int) + 1))]) (rest := [.int (zI (celA xs L (2 * (j : Int)))), .ref (a 0)]) S (l_cell l b L xs (2 * (j : Int) + 1) hL (by omega)) (va_cwS 2 hts gL_law_L_cell rfl rfl rfl (by decide +kernel) ⟨(Nat.le_of_ble_eq_true rfl), (Nat.le_of_ble_eq_true rfl)⟩) (va_X.kept hX (hS.2.1 b hbl hbA)) rfl hl.1 (Nat.le_of_ble_eq_true rfl) dL_law_78 ⟨(Nat.le_of_ble_eq_true rfl), (Nat.le_of_ble_eq_true rfl)⟩ ?_
      refine x_callSMz (As := [.ref (a 0), .int (zI (celA xs L (2 * (j : Int)))), .int (zI (celA xs L (2 * (j : Int) + 1)))]) (rest := []) S hK (kZ.keptS hZ hS hN) (l_does l D cs a τ pd ln (celA xs L (2 * (j : Int))) (celA xs L (2 * (j : Int) + 1)) j s.heap.size hG hI (by omega) (by omega) hea) (va_cwS 3 hts gL_law_L_does rfl rfl rfl (by decide +kernel) ⟨(Nat.le_of_ble_eq_true rfl), (Nat.le_of_ble_eq_true rfl)⟩) hW rfl hl.1 (Nat.le_of_ble_eq_true rfl) dL_law_81 ⟨(Nat.le_of_ble_eq_true rfl), (Nat.le_of_ble_eq_true rfl)⟩ hS hea (fun H locs hB hF hS => ?_)
      have hD2 : DW D cs a ((j + 1 : Nat) : Int) (700 * ((j + 1 : Nat) : Int)) H := by
        obtain ⟨τ2, pd2, ln2, q1, q2, q3⟩ := hB
        exact ⟨τ2, pd2, ln2, q1, by rw [show ((j + 1 : Nat) : Int) = (j : Int) + 1 by omega]; exact q2, by omega⟩
      have nx : ∀ (ls : Array Slot), lv_has ls 3 [(2, .int (zI (j : Int))), (1, .ref (a 0)), (0, .ref b)] → W p l e room_1 s m #[Value.ref b] below meth c H locs 238 1705 (lw_Z below #[Value.ref b] s) (F0 m 103 ls []) := by
        intro ls hl
        refine x_iinc (x := (j : Int)) (lv' := [(2, .int (zI ((j : Int) + 1))), (1, .ref (a 0)), (0, .ref b)]) hx hb dL_law_103 hl (k := 0) rfl (by decide) rfl (fun ls hl => ?_)
        refine lv_goto (tgt := 58) hx hb dL_law_106 (by decide) ?_
        exact ih (j + 1) (by omega) (by omega) H locs hD2 hS ls (by rw [show ((j + 1 : Nat) : Int) = (j : Int) + 1 by omega]; exact hl)
      refine x_if_eq (tgt := 101) hx hb dL_law_84 (by decide) (by decide) (fun q => absurd q (by decide)) (fun _ => ?_)
      refine lv_iload_n hx hb dL_law_87 rfl (lv_at hl 0 rfl) ?_
      refine x_iconst hx hb dL_law_88 ?_
      refine x_irem hx hb (by omega) (by omega) dL_law_89 ?_
      refine x_iconst hx hb dL_law_90 ?_
      refine x_icmp_ne (tgt := 103) hx hb dL_law_91 (by decide) (by omega) (by omega) (fun _ => nx ls hl) (fun _ => ?_)
      refine lv_aload_n hx hb dL_law_94 rfl (lv_at hl 1 rfl) ?_
      obtain ⟨τ2, pd2, ln2, q1, q2, q3⟩ := hB
      refine x_callSR (As := [.ref (a 0)]) (rest := []) S hK (l_areMeters l D cs a τ2 pd2 ln2 _ q2) (va_cwS 1 hts gL_law_L_areMeters rfl rfl rfl (by decide +kernel) ⟨(Nat.le_of_ble_eq_true rfl), (Nat.le_of_ble_eq_true rfl)⟩) q1 rfl hl.1 (Nat.le_of_ble_eq_true rfl) dL_law_95 ⟨(Nat.le_of_ble_eq_true rfl), (Nat.le_of_ble_eq_true rfl)⟩ ?_
      exact x_if_ne (tgt := 103) hx hb dL_law_98 (by decide) (by decide) (fun _ => nx ls hl) (fun q => absurd q (by decide))

theorem sm0_g : GD 0 hT0 := ⟨by decide, ⟨sM0, SM_0⟩, fun k h0 h1 => by
  have : hT0 7 = 0 := rfl
  omega⟩
set_option maxHeartbeats 4000000 in
set_option maxRecDepth 100000 in
theorem whole_start {p : Program} {e : Env} {s : State} {m : MethodId} {below : List Frame} {meth : Method} {c : Code} (l : Launch) (hflags : l.flags = flags0) {b L : Nat} {xs : Nat → Int32} (hL : L ≤ 260) (C0 : lw_At p s m meth c b L xs) : W p l e room_1 s m #[Value.ref b] below meth c s.heap [] 0 0 (lw_Z below #[Value.ref b] s) (entryFrame m ([Value.ref b] : List Value).toArray 3) := by
  obtain ⟨hx, hb, hr, hml, hown, hts, hX, hbl, hlocks, hgv⟩ := id C0
  obtain ⟨D, cs, hK⟩ := kK_of hts
  have hZ := kZ_of hts hgv
  have hO := kO_of hts
  have hts2 : ∀ w ∈ wsL_law, w.before #[Value.ref b] s = true := fun w hw => hts w (wsL_law_in w hw)
  have S : CallFix p m c cL_law 3 s #[Value.ref b] wsL_law RL := ⟨hx, hb, hml, hown, hts2⟩
  obtain ⟨b0, hb0⟩ : ∃ z, z = s.heap.size := ⟨_, rfl⟩
  rw [← hb0] at hZ
  have hbl0 := hbl
  rw [← hb0] at hbl0
  have hA0 : ∀ q, nA b0 q → b0 ≤ q := fun q h => h
  have hn : nAt D b0 0 (fun _ => .inr (5, edD)) s.heap := ⟨by rw [← hb0]; omega, by decide, fun i h0 h1 => by omega⟩
  have hS : va_S (nA b0) s.heap s.heap [] := va_S.rf
  have hl := lv_entry ([.ref b]) (n := 3) (Nat.le_of_ble_eq_true rfl)
  rw [lg_entry_eq]
  generalize (lg_sl ([.ref b]) ++ List.replicate (3 - (lg_sl ([.ref b])).length) Slot.unset).toArray = ls at hl ⊢
  have hl : lv_has ls 3 [(0, .ref b)] := hl
  refine n_new (C := RX6) (T := TX6) (N := 6) (ci := 5) S inlX6 tyX6 tyX6_ok (hts2 (.classLink RL 9 RX6) (by decide +kernel)) (hts2 (.instantiable RX6 6) (by decide +kernel)) (hts2 (.initialized RX6) (by decide +kernel)) hK rfl nwE hn hS (Nat.le_of_ble_eq_true rfl) (Nat.le_of_ble_eq_true rfl) dL_law_0 (fun H hn hS => ?_)
  refine lv_dup hx hb dL_law_3 rfl ?_
  have hP := nAt_last hn (by decide)
  rw [show sq b0 0 = b0 from rfl] at hP
  rw [show sq b0 0 = b0 from rfl]
  refine x_callI (As := []) (rest := [.ref b0]) S hK (kZ.keptS (A := nA b0) hZ hS hA0) hO (c_X6_init l D cs b0 b0 (Nat.le_refl _)) (cwI 0 hts2 gL_law_X6_init rfl rfl rfl (hts2 (.initialized RX6) (by decide +kernel)) (hts2 (.methodLink RL 103 yX6_init) (by decide +kernel)) (hts2 (.instanceMethod yX6_init) (by decide +kernel)) rfl (by decide +kernel) ⟨Nat.le_of_ble_eq_true rfl, Nat.le_of_ble_eq_true rfl⟩) hP rfl hl.1 (Nat.le_of_ble_eq_true rfl) dL_law_4 ⟨Nat.le_of_ble_eq_true rfl, Nat.le_of_ble_eq_true rfl⟩ hS (fun q hq => hq) (fun H locs hB hF hS => ?_)
  obtain ⟨hsz, hE⟩ := hB
  refine lv_astore_n (lv' := [(1, .ref b0), (0, .ref b)]) hx hb dL_law_7 rfl hl (by decide) rfl (fun ls hl => ?_)
  have hW : PW D cs (ea b0) hT0 (fun _ => 0) 0 H := PW_mk hE (by decide) (by decide)
  have hG := sm0_g
  have e00 : ea b0 0 = b0 := rfl
  have hl : lv_has ls 3 [(1, .ref (ea b0 0)), (0, .ref b)] := hl
  refine lv_aload_n hx hb dL_law_8 rfl (lv_at hl 0 rfl) ?_
  refine x_callSR (As := [.ref (ea b0 0)]) (rest := []) S hK (l_areMeters l D cs (ea b0) hT0 (fun _ => 0) 0 0 hG) (va_cwS 1 hts2 gL_law_L_areMeters rfl rfl rfl (by decide +kernel) ⟨(Nat.le_of_ble_eq_true rfl), (Nat.le_of_ble_eq_true rfl)⟩) hW rfl hl.1 (Nat.le_of_ble_eq_true rfl) dL_law_9 ⟨(Nat.le_of_ble_eq_true rfl), (Nat.le_of_ble_eq_true rfl)⟩ ?_
  refine x_if_eq (tgt := 54) hx hb dL_law_12 (by decide) (by decide) (fun q => absurd q (by decide)) (fun _ => ?_)
  refine lv_aload_n hx hb dL_law_15 rfl (lv_at hl 0 rfl) ?_
  refine x_iconst hx hb dL_law_16 ?_
  refine x_callVR (As := [.int (zI 1)]) (rest := []) S hK (p_count_1 l D cs (ea b0) hT0 (fun _ => 0) 0 hG) (cwV 1 hts2 gL_law_X6_count rfl rfl rfl (by decide +kernel) ⟨(Nat.le_of_ble_eq_true rfl), (Nat.le_of_ble_eq_true rfl)⟩) (PW_rc hK hW) hW rfl hl.1 (Nat.le_of_ble_eq_true rfl) dL_law_17 ⟨(Nat.le_of_ble_eq_true rfl), (Nat.le_of_ble_eq_true rfl)⟩ ?_
  refine x_iconst hx hb dL_law_20 ?_
  refine x_icmp_neE (tgt := 54) hx hb dL_law_21 (by decide) (by decide) ?_
  refine lv_aload_n hx hb dL_law_24 rfl (lv_at hl 0 rfl) ?_
  refine x_bipush hx hb dL_law_25 (by decide +kernel) ?_
  refine x_callVR (As := [.int (zI 12)]) (rest := []) S hK (p_count_12 l D cs (ea b0) hT0 (fun _ => 0) 0 hG) (cwV 1 hts2 gL_law_X6_count rfl rfl rfl (by decide +kernel) ⟨(Nat.le_of_ble_eq_true rfl), (Nat.le_of_ble_eq_true rfl)⟩) (PW_rc hK hW) hW rfl hl.1 (Nat.le_of_ble_eq_true rfl) dL_law_27 ⟨(Nat.le_of_ble_eq_true rfl), (Nat.le_of_ble_eq_true rfl)⟩ ?_
  refine x_sipush hx hb dL_law_30 (by decide +kernel) ?_
  refine x_icmp_neE (tgt := 54) hx hb dL_law_33 (by decide) (by decide) ?_
  refine lv_aload_n hx hb dL_law_36 rfl (lv_at hl 0 rfl) ?_
  refine x_callVR (As := []) (rest := []) S hK (c_X6_undo_bad l D cs (ea b0) hT0 (fun _ => hT0) (fun _ => hT0) (bgM (-6) 0) (fun _ => 0) 0 0 0 (fun _ => 0) rfl) (cwV 0 hts2 gL_law_X6_undo rfl rfl rfl (by decide +kernel) ⟨(Nat.le_of_ble_eq_true rfl), (Nat.le_of_ble_eq_true rfl)⟩) (PW_rc hK hW) hE rfl hl.1 (Nat.le_of_ble_eq_true rfl) dL_law_37 ⟨(Nat.le_of_ble_eq_true rfl), (Nat.le_of_ble_eq_true rfl)⟩ ?_
  refine x_bipush hx hb dL_law_40 (by decide +kernel) ?_
  refine x_icmp_neE (tgt := 54) hx hb dL_law_42 (by decide) rfl ?_
  refine lv_aload_n hx hb dL_law_45 rfl (lv_at hl 0 rfl) ?_
  refine x_iconst hx hb dL_law_46 ?_
  refine x_callVR (As := [.int (zI 0)]) (rest := []) S hK (p_lags_bad l D cs (ea b0) hT0 (fun _ => 0) 0 0 hG (by decide) (by decide)) (cwV 1 hts2 gL_law_X6_lags rfl rfl rfl (by decide +kernel) ⟨(Nat.le_of_ble_eq_true rfl), (Nat.le_of_ble_eq_true rfl)⟩) (PW_rc hK hW) hW rfl hl.1 (Nat.le_of_ble_eq_true rfl) dL_law_47 ⟨(Nat.le_of_ble_eq_true rfl), (Nat.le_of_ble_eq_true rfl)⟩ ?_
  refine x_iconst hx hb dL_law_50 ?_
  refine x_icmp_eqE (tgt := 56) hx hb dL_law_51 (by decide) rfl ?_
  refine x_iconst hx hb dL_law_56 ?_
  refine lv_istore_n (lv' := [(2, .int (zI 0)), (1, .ref (ea b0 0)), (0, .ref b)]) hx hb dL_law_57 rfl hl (by decide) rfl (fun ls hl => ?_)
  subst hb0
  have C1 : LC p l s m meth c b L xs D cs (ea s.heap.size) := ⟨S, hK, hZ, hX, hbl, ea_I, fun q h => (ea_C h).1, hL⟩
  exact law_loop C1 hr hlocks 91 0 (by omega) (by omega) H locs ⟨_, _, _, hW, hG, by decide⟩ hS ls hl
