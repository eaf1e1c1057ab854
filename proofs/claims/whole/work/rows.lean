section
-- ===== PART A: goes FIRST, ahead of the names: the tables' words, and 'selects' of the private methods out of them =====
/-- a private method of a class that the tables say can be made, by its rows of tables_1 -/
def lw_okq (q : MethodName × Nat) : Prop := (q.1.cls ≠ "java/lang/invoke/MethodHandle" ∧ q.1.cls ≠ "java/lang/invoke/VarHandle") ∧ Cond.instantiable q.1.cls q.2 ∈ tables_1 ∧ Cond.privateMethod q.1 ∈ tables_1 ∧ Cond.instanceMethod q.1 ∈ tables_1
theorem lw_p0 : lw_okq (⟨"EnergyDiscs$Meter", "wayIn", "(II[I)I"⟩, 13) := ⟨⟨by decide +kernel, by decide +kernel⟩, List.mem_of_getElem? (i := 30) (by decide +kernel), List.mem_of_getElem? (i := 353) (by decide +kernel), List.mem_of_getElem? (i := 354) (by decide +kernel)⟩
theorem lw_p1 : lw_okq (⟨"EnergyDiscs", "carryOneOut", "(II)I"⟩, 6) := ⟨⟨by decide +kernel, by decide +kernel⟩, List.mem_of_getElem? (i := 11) (by decide +kernel), List.mem_of_getElem? (i := 518) (by decide +kernel), List.mem_of_getElem? (i := 519) (by decide +kernel)⟩
theorem lw_p2 : lw_okq (⟨"EnergyDiscsModel", "remembers", "()V"⟩, 7) := ⟨⟨by decide +kernel, by decide +kernel⟩, List.mem_of_getElem? (i := 544) (by decide +kernel), List.mem_of_getElem? (i := 591) (by decide +kernel), List.mem_of_getElem? (i := 592) (by decide +kernel)⟩
theorem lw_p3 : lw_okq (⟨"EnergyDiscsModel", "num", "(I)I"⟩, 7) := ⟨⟨by decide +kernel, by decide +kernel⟩, List.mem_of_getElem? (i := 544) (by decide +kernel), List.mem_of_getElem? (i := 595) (by decide +kernel), List.mem_of_getElem? (i := 596) (by decide +kernel)⟩
theorem lw_p4 : lw_okq (⟨"EnergyDiscsModel", "whyNotMeter", "(I)I"⟩, 7) := ⟨⟨by decide +kernel, by decide +kernel⟩, List.mem_of_getElem? (i := 544) (by decide +kernel), List.mem_of_getElem? (i := 603) (by decide +kernel), List.mem_of_getElem? (i := 604) (by decide +kernel)⟩
theorem lw_p5 : lw_okq (⟨"EnergyDiscsModel", "isMeter", "(I)Z"⟩, 7) := ⟨⟨by decide +kernel, by decide +kernel⟩, List.mem_of_getElem? (i := 544) (by decide +kernel), List.mem_of_getElem? (i := 607) (by decide +kernel), List.mem_of_getElem? (i := 608) (by decide +kernel)⟩
theorem lw_p6 : lw_okq (⟨"EnergyDiscsModel", "comes", "(I)I"⟩, 7) := ⟨⟨by decide +kernel, by decide +kernel⟩, List.mem_of_getElem? (i := 544) (by decide +kernel), List.mem_of_getElem? (i := 611) (by decide +kernel), List.mem_of_getElem? (i := 612) (by decide +kernel)⟩
theorem lw_p7 : lw_okq (⟨"EnergyDiscsModel", "whyNotLoad", "(II)I"⟩, 7) := ⟨⟨by decide +kernel, by decide +kernel⟩, List.mem_of_getElem? (i := 544) (by decide +kernel), List.mem_of_getElem? (i := 624) (by decide +kernel), List.mem_of_getElem? (i := 625) (by decide +kernel)⟩
theorem lw_p8 : lw_okq (⟨"EnergyDiscsModel", "loads", "(II)I"⟩, 7) := ⟨⟨by decide +kernel, by decide +kernel⟩, List.mem_of_getElem? (i := 544) (by decide +kernel), List.mem_of_getElem? (i := 628) (by decide +kernel), List.mem_of_getElem? (i := 629) (by decide +kernel)⟩
theorem lw_p9 : lw_okq (⟨"EnergyDiscsModel", "isLoad", "(I)Z"⟩, 7) := ⟨⟨by decide +kernel, by decide +kernel⟩, List.mem_of_getElem? (i := 544) (by decide +kernel), List.mem_of_getElem? (i := 636) (by decide +kernel), List.mem_of_getElem? (i := 637) (by decide +kernel)⟩
theorem lw_p10 : lw_okq (⟨"EnergyDiscsModel", "turns", "(I)I"⟩, 7) := ⟨⟨by decide +kernel, by decide +kernel⟩, List.mem_of_getElem? (i := 544) (by decide +kernel), List.mem_of_getElem? (i := 640) (by decide +kernel), List.mem_of_getElem? (i := 641) (by decide +kernel)⟩
theorem lw_p11 : lw_okq (⟨"EnergyDiscsModel", "whyNotTamper", "(I)I"⟩, 7) := ⟨⟨by decide +kernel, by decide +kernel⟩, List.mem_of_getElem? (i := 544) (by decide +kernel), List.mem_of_getElem? (i := 648) (by decide +kernel), List.mem_of_getElem? (i := 649) (by decide +kernel)⟩
theorem lw_p12 : lw_okq (⟨"EnergyDiscsModel", "its", "(II)I"⟩, 7) := ⟨⟨by decide +kernel, by decide +kernel⟩, List.mem_of_getElem? (i := 544) (by decide +kernel), List.mem_of_getElem? (i := 652) (by decide +kernel), List.mem_of_getElem? (i := 653) (by decide +kernel)⟩
theorem lw_p13 : lw_okq (⟨"EnergyDiscsModel", "visits", "(I)I"⟩, 7) := ⟨⟨by decide +kernel, by decide +kernel⟩, List.mem_of_getElem? (i := 544) (by decide +kernel), List.mem_of_getElem? (i := 660) (by decide +kernel), List.mem_of_getElem? (i := 661) (by decide +kernel)⟩
theorem lw_p14 : lw_okq (⟨"EnergyDiscsModel", "billOf", "(I)I"⟩, 7) := ⟨⟨by decide +kernel, by decide +kernel⟩, List.mem_of_getElem? (i := 544) (by decide +kernel), List.mem_of_getElem? (i := 664) (by decide +kernel), List.mem_of_getElem? (i := 665) (by decide +kernel)⟩
theorem lw_p15 : lw_okq (⟨"EnergyDiscsModel", "whyNotPass", "(I)I"⟩, 7) := ⟨⟨by decide +kernel, by decide +kernel⟩, List.mem_of_getElem? (i := 544) (by decide +kernel), List.mem_of_getElem? (i := 672) (by decide +kernel), List.mem_of_getElem? (i := 673) (by decide +kernel)⟩
def lw_privs_1 : List (MethodName × Nat) := [(⟨"EnergyDiscs$Meter", "wayIn", "(II[I)I"⟩, 13), (⟨"EnergyDiscs", "carryOneOut", "(II)I"⟩, 6), (⟨"EnergyDiscsModel", "remembers", "()V"⟩, 7), (⟨"EnergyDiscsModel", "num", "(I)I"⟩, 7), (⟨"EnergyDiscsModel", "whyNotMeter", "(I)I"⟩, 7), (⟨"EnergyDiscsModel", "isMeter", "(I)Z"⟩, 7), (⟨"EnergyDiscsModel", "comes", "(I)I"⟩, 7), (⟨"EnergyDiscsModel", "whyNotLoad", "(II)I"⟩, 7), (⟨"EnergyDiscsModel", "loads", "(II)I"⟩, 7), (⟨"EnergyDiscsModel", "isLoad", "(I)Z"⟩, 7), (⟨"EnergyDiscsModel", "turns", "(I)I"⟩, 7), (⟨"EnergyDiscsModel", "whyNotTamper", "(I)I"⟩, 7), (⟨"EnergyDiscsModel", "its", "(II)I"⟩, 7), (⟨"EnergyDiscsModel", "visits", "(I)I"⟩, 7), (⟨"EnergyDiscsModel", "billOf", "(I)I"⟩, 7), (⟨"EnergyDiscsModel", "whyNotPass", "(I)I"⟩, 7)]
theorem lw_r1 : ∀ q ∈ lw_privs_1, lw_okq q := List.forall_mem_cons.mpr ⟨lw_p0, List.forall_mem_cons.mpr ⟨lw_p1, List.forall_mem_cons.mpr ⟨lw_p2, List.forall_mem_cons.mpr ⟨lw_p3, List.forall_mem_cons.mpr ⟨lw_p4, List.forall_mem_cons.mpr ⟨lw_p5, List.forall_mem_cons.mpr ⟨lw_p6, List.forall_mem_cons.mpr ⟨lw_p7, List.forall_mem_cons.mpr ⟨lw_p8, List.forall_mem_cons.mpr ⟨lw_p9, List.forall_mem_cons.mpr ⟨lw_p10, List.forall_mem_cons.mpr ⟨lw_p11, List.forall_mem_cons.mpr ⟨lw_p12, List.forall_mem_cons.mpr ⟨lw_p13, List.forall_mem_cons.mpr ⟨lw_p14, List.forall_mem_cons.mpr ⟨lw_p15, fun _ h => absurd h List.not_mem_nil⟩⟩⟩⟩⟩⟩⟩⟩⟩⟩⟩⟩⟩⟩⟩⟩
theorem lw_p16 : lw_okq (⟨"EnergyDiscsModel", "passes", "(II)I"⟩, 7) := ⟨⟨by decide +kernel, by decide +kernel⟩, List.mem_of_getElem? (i := 544) (by decide +kernel), List.mem_of_getElem? (i := 677) (by decide +kernel), List.mem_of_getElem? (i := 678) (by decide +kernel)⟩
theorem lw_p17 : lw_okq (⟨"EnergyDiscsModel", "passesOne", "(II)I"⟩, 7) := ⟨⟨by decide +kernel, by decide +kernel⟩, List.mem_of_getElem? (i := 544) (by decide +kernel), List.mem_of_getElem? (i := 681) (by decide +kernel), List.mem_of_getElem? (i := 682) (by decide +kernel)⟩
theorem lw_p18 : lw_okq (⟨"EnergyDiscsModel", "power", "(I)I"⟩, 7) := ⟨⟨by decide +kernel, by decide +kernel⟩, List.mem_of_getElem? (i := 544) (by decide +kernel), List.mem_of_getElem? (i := 685) (by decide +kernel), List.mem_of_getElem? (i := 686) (by decide +kernel)⟩
theorem lw_p19 : lw_okq (⟨"EnergyDiscsModel", "isThrough", "(II)Z"⟩, 7) := ⟨⟨by decide +kernel, by decide +kernel⟩, List.mem_of_getElem? (i := 544) (by decide +kernel), List.mem_of_getElem? (i := 689) (by decide +kernel), List.mem_of_getElem? (i := 690) (by decide +kernel)⟩
theorem lw_p20 : lw_okq (⟨"EnergyDiscsModel", "goes", "(III)J"⟩, 7) := ⟨⟨by decide +kernel, by decide +kernel⟩, List.mem_of_getElem? (i := 544) (by decide +kernel), List.mem_of_getElem? (i := 693) (by decide +kernel), List.mem_of_getElem? (i := 694) (by decide +kernel)⟩
theorem lw_p21 : lw_okq (⟨"EnergyDiscsModel", "types", "(I)V"⟩, 7) := ⟨⟨by decide +kernel, by decide +kernel⟩, List.mem_of_getElem? (i := 544) (by decide +kernel), List.mem_of_getElem? (i := 709) (by decide +kernel), List.mem_of_getElem? (i := 710) (by decide +kernel)⟩
theorem lw_p22 : lw_okq (⟨"EnergyDiscsModel", "typesNumber", "(I)V"⟩, 7) := ⟨⟨by decide +kernel, by decide +kernel⟩, List.mem_of_getElem? (i := 544) (by decide +kernel), List.mem_of_getElem? (i := 713) (by decide +kernel), List.mem_of_getElem? (i := 714) (by decide +kernel)⟩
theorem lw_p23 : lw_okq (⟨"EnergyDiscsModel", "untilWeaker", "(I)I"⟩, 7) := ⟨⟨by decide +kernel, by decide +kernel⟩, List.mem_of_getElem? (i := 544) (by decide +kernel), List.mem_of_getElem? (i := 725) (by decide +kernel), List.mem_of_getElem? (i := 726) (by decide +kernel)⟩
theorem lw_p24 : lw_okq (⟨"EnergyDiscsModel", "turnsOf", "(I)I"⟩, 7) := ⟨⟨by decide +kernel, by decide +kernel⟩, List.mem_of_getElem? (i := 544) (by decide +kernel), List.mem_of_getElem? (i := 737) (by decide +kernel), List.mem_of_getElem? (i := 738) (by decide +kernel)⟩
theorem lw_p25 : lw_okq (⟨"EnergyDiscsModel", "ofAll", "(I)I"⟩, 7) := ⟨⟨by decide +kernel, by decide +kernel⟩, List.mem_of_getElem? (i := 544) (by decide +kernel), List.mem_of_getElem? (i := 750) (by decide +kernel), List.mem_of_getElem? (i := 751) (by decide +kernel)⟩
theorem lw_p26 : lw_okq (⟨"EnergyDiscsModel", "copies", "()V"⟩, 7) := ⟨⟨by decide +kernel, by decide +kernel⟩, List.mem_of_getElem? (i := 544) (by decide +kernel), List.mem_of_getElem? (i := 762) (by decide +kernel), List.mem_of_getElem? (i := 763) (by decide +kernel)⟩
theorem lw_p27 : lw_okq (⟨"EnergyDiscsModel", "orderEnd", "(I)I"⟩, 7) := ⟨⟨by decide +kernel, by decide +kernel⟩, List.mem_of_getElem? (i := 544) (by decide +kernel), List.mem_of_getElem? (i := 793) (by decide +kernel), List.mem_of_getElem? (i := 794) (by decide +kernel)⟩
theorem lw_p28 : lw_okq (⟨"EnergyDiscsModel", "code", "(I)I"⟩, 7) := ⟨⟨by decide +kernel, by decide +kernel⟩, List.mem_of_getElem? (i := 544) (by decide +kernel), List.mem_of_getElem? (i := 797) (by decide +kernel), List.mem_of_getElem? (i := 798) (by decide +kernel)⟩
theorem lw_p29 : lw_okq (⟨"EnergyDiscsModel", "digit", "(I)I"⟩, 7) := ⟨⟨by decide +kernel, by decide +kernel⟩, List.mem_of_getElem? (i := 544) (by decide +kernel), List.mem_of_getElem? (i := 801) (by decide +kernel), List.mem_of_getElem? (i := 802) (by decide +kernel)⟩
theorem lw_p30 : lw_okq (⟨"EnergyDiscsModel", "numberEnd", "(I)I"⟩, 7) := ⟨⟨by decide +kernel, by decide +kernel⟩, List.mem_of_getElem? (i := 544) (by decide +kernel), List.mem_of_getElem? (i := 805) (by decide +kernel), List.mem_of_getElem? (i := 806) (by decide +kernel)⟩
theorem lw_p31 : lw_okq (⟨"EnergyDiscsModel", "whyNot", "(I)I"⟩, 7) := ⟨⟨by decide +kernel, by decide +kernel⟩, List.mem_of_getElem? (i := 544) (by decide +kernel), List.mem_of_getElem? (i := 814) (by decide +kernel), List.mem_of_getElem? (i := 815) (by decide +kernel)⟩
def lw_privs_2 : List (MethodName × Nat) := [(⟨"EnergyDiscsModel", "passes", "(II)I"⟩, 7), (⟨"EnergyDiscsModel", "passesOne", "(II)I"⟩, 7), (⟨"EnergyDiscsModel", "power", "(I)I"⟩, 7), (⟨"EnergyDiscsModel", "isThrough", "(II)Z"⟩, 7), (⟨"EnergyDiscsModel", "goes", "(III)J"⟩, 7), (⟨"EnergyDiscsModel", "types", "(I)V"⟩, 7), (⟨"EnergyDiscsModel", "typesNumber", "(I)V"⟩, 7), (⟨"EnergyDiscsModel", "untilWeaker", "(I)I"⟩, 7), (⟨"EnergyDiscsModel", "turnsOf", "(I)I"⟩, 7), (⟨"EnergyDiscsModel", "ofAll", "(I)I"⟩, 7), (⟨"EnergyDiscsModel", "copies", "()V"⟩, 7), (⟨"EnergyDiscsModel", "orderEnd", "(I)I"⟩, 7), (⟨"EnergyDiscsModel", "code", "(I)I"⟩, 7), (⟨"EnergyDiscsModel", "digit", "(I)I"⟩, 7), (⟨"EnergyDiscsModel", "numberEnd", "(I)I"⟩, 7), (⟨"EnergyDiscsModel", "whyNot", "(I)I"⟩, 7)]
theorem lw_r2 : ∀ q ∈ lw_privs_2, lw_okq q := List.forall_mem_cons.mpr ⟨lw_p16, List.forall_mem_cons.mpr ⟨lw_p17, List.forall_mem_cons.mpr ⟨lw_p18, List.forall_mem_cons.mpr ⟨lw_p19, List.forall_mem_cons.mpr ⟨lw_p20, List.forall_mem_cons.mpr ⟨lw_p21, List.forall_mem_cons.mpr ⟨lw_p22, List.forall_mem_cons.mpr ⟨lw_p23, List.forall_mem_cons.mpr ⟨lw_p24, List.forall_mem_cons.mpr ⟨lw_p25, List.forall_mem_cons.mpr ⟨lw_p26, List.forall_mem_cons.mpr ⟨lw_p27, List.forall_mem_cons.mpr ⟨lw_p28, List.forall_mem_cons.mpr ⟨lw_p29, List.forall_mem_cons.mpr ⟨lw_p30, List.forall_mem_cons.mpr ⟨lw_p31, fun _ h => absurd h List.not_mem_nil⟩⟩⟩⟩⟩⟩⟩⟩⟩⟩⟩⟩⟩⟩⟩⟩
theorem lw_p32 : lw_okq (⟨"EnergyDiscsModel", "numberAt", "(I)I"⟩, 7) := ⟨⟨by decide +kernel, by decide +kernel⟩, List.mem_of_getElem? (i := 544) (by decide +kernel), List.mem_of_getElem? (i := 818) (by decide +kernel), List.mem_of_getElem? (i := 819) (by decide +kernel)⟩
theorem lw_p33 : lw_okq (⟨"EnergyDiscsModel", "does", "(I)I"⟩, 7) := ⟨⟨by decide +kernel, by decide +kernel⟩, List.mem_of_getElem? (i := 544) (by decide +kernel), List.mem_of_getElem? (i := 822) (by decide +kernel), List.mem_of_getElem? (i := 823) (by decide +kernel)⟩
def lw_privs_3 : List (MethodName × Nat) := [(⟨"EnergyDiscsModel", "numberAt", "(I)I"⟩, 7), (⟨"EnergyDiscsModel", "does", "(I)I"⟩, 7)]
theorem lw_r3 : ∀ q ∈ lw_privs_3, lw_okq q := List.forall_mem_cons.mpr ⟨lw_p32, List.forall_mem_cons.mpr ⟨lw_p33, fun _ h => absurd h List.not_mem_nil⟩⟩
def lw_privs : List (MethodName × Nat) := lw_privs_1 ++ (lw_privs_2 ++ (lw_privs_3))
def lw_tbl : List Cond := k2_sels lw_privs ++ tables_1
theorem lw_privs_ok : ∀ q ∈ lw_privs, lw_okq q := by
  show ∀ q ∈ lw_privs_1 ++ (lw_privs_2 ++ (lw_privs_3)), lw_okq q
  exact List.forall_mem_append.mpr ⟨lw_r1, List.forall_mem_append.mpr ⟨lw_r2, lw_r3⟩⟩
end
section
/-! ===== BEGIN words of one list among another's, by their places ===== -/
theorem goodIn_r {big : List Cond} (ws : List Cond) (ps : List Nat) (hp : ws = ps.filterMap (fun i => big[i]?)) (h : ws.all goodWord = true) : GoodIn big ws := by
  intro w hw
  have h1 := List.all_eq_true.mp h w hw
  rw [hp] at hw
  obtain ⟨i, -, hi⟩ := List.mem_filterMap.mp hw
  have hm : w ∈ big := by first | exact List.mem_of_getElem? hi | exact List.getElem?_mem hi
  exact ⟨hm, good_of_word h1⟩
theorem goodIn_app {big a b : List Cond} (ha : GoodIn big a) (hb : GoodIn big b) : GoodIn big (a ++ b) := fun w h => (List.mem_append.mp h).elim (ha w) (hb w)
theorem goodIn_ca {big a b : List Cond} {c : Cond} (ha : GoodIn big (c :: a)) (hb : GoodIn big b) : GoodIn big (c :: (a ++ b)) := fun w h => (List.mem_cons.mp h).elim (fun e => ha w (List.mem_cons.mpr (Or.inl e))) (fun h => (List.mem_append.mp h).elim (fun h => ha w (List.mem_cons.mpr (Or.inr h))) (hb w))
theorem goodIn_sub {big ws : List Cond} (hm : ∀ w ∈ ws, w ∈ big) (h : ws.all goodWord = true) : GoodIn big ws := fun w hw => ⟨hm w hw, good_of_word (List.all_eq_true.mp h w hw)⟩
/-! ===== END ===== -/

/-! ===== BEGIN printed: names, fields, word lists, decode rows ===== -/
def RX0 : String := "EnergyDiscs$Grammar"
def TX0 : u_T := fun k => match k with
  | _ => ("", "", "", false)
def tyX0 : Nat → FieldType := fun k => match k with
  | _ => .int
abbrev wsX00 : List Cond := u_ws RX0 TX0 0
theorem nmX0 : ∀ a, a < 0 → ∀ b, b < 0 → a ≠ b → (TX0 a).2.1 ≠ (TX0 b).2.1 := by decide +kernel
theorem tyX0_ok : ∀ k, k < 0 → parseFieldDescriptor (TX0 k).2.2.1 = some (tyX0 k) := by decide +kernel
abbrev cX0_faultOf : ByteArray := prog_2_method_2_code
def yX0_faultOf : MethodName := ⟨RX0, "faultOf", "(LEnergyDiscs$Pad;)I"⟩
abbrev cX0_stateAfter : ByteArray := prog_2_method_3_code
def yX0_stateAfter : MethodName := ⟨RX0, "stateAfter", "(II)I"⟩
abbrev cX0_stateAfterName : ByteArray := prog_2_method_4_code
def yX0_stateAfterName : MethodName := ⟨RX0, "stateAfterName", "(I)I"⟩
abbrev cX0_ifDigit : ByteArray := prog_2_method_5_code
def yX0_ifDigit : MethodName := ⟨RX0, "ifDigit", "(II)I"⟩
abbrev cX0_mayEnd : ByteArray := prog_2_method_6_code
def yX0_mayEnd : MethodName := ⟨RX0, "mayEnd", "(I)Z"⟩
def RX1 : String := "EnergyDiscs$History"
def TX1 : u_T := fun k => match k with
  | 0 => ("EnergyDiscs$History", "states", "[LEnergyDiscs$House;", true)
  | 1 => ("EnergyDiscs$History", "free", "I", false)
  | _ => ("EnergyDiscs$History", "kept", "I", false)
def tyX1 : Nat → FieldType := fun k => match k with
  | 0 => .array (.object "EnergyDiscs$House")
  | 1 => .int
  | _ => .int
abbrev wsX10 : List Cond := u_ws RX1 TX1 3
theorem nmX1 : ∀ a, a < 3 → ∀ b, b < 3 → a ≠ b → (TX1 a).2.1 ≠ (TX1 b).2.1 := by decide +kernel
theorem tyX1_ok : ∀ k, k < 3 → parseFieldDescriptor (TX1 k).2.2.1 = some (tyX1 k) := by decide +kernel
abbrev cX1_init : ByteArray := prog_3_method_1_code
def yX1_init : MethodName := ⟨RX1, "<init>", "()V"⟩
abbrev cX1_prepare : ByteArray := prog_3_method_2_code
def yX1_prepare : MethodName := ⟨RX1, "prepare", "(LEnergyDiscs$House;)V"⟩
abbrev cX1_settle : ByteArray := prog_3_method_3_code
def yX1_settle : MethodName := ⟨RX1, "settle", "(I)I"⟩
abbrev cX1_takeLatest : ByteArray := prog_3_method_4_code
def yX1_takeLatest : MethodName := ⟨RX1, "takeLatest", "()LEnergyDiscs$House;"⟩
def RX2 : String := "EnergyDiscs$House"
def TX2 : u_T := fun k => match k with
  | 0 => ("EnergyDiscs$House", "settings", "[I", true)
  | 1 => ("EnergyDiscs$House", "meters", "[LEnergyDiscs$Meter;", true)
  | 2 => ("EnergyDiscs$House", "loads", "[LEnergyDiscs$Load;", true)
  | 3 => ("EnergyDiscs$House", "time", "I", false)
  | 4 => ("EnergyDiscs$House", "meterCount", "I", false)
  | 5 => ("EnergyDiscs$House", "loadCount", "I", false)
  | _ => ("EnergyDiscs$House", "greatestSeal", "I", false)
def tyX2 : Nat → FieldType := fun k => match k with
  | 0 => .array .int
  | 1 => .array (.object "EnergyDiscs$Meter")
  | 2 => .array (.object "EnergyDiscs$Load")
  | 3 => .int
  | 4 => .int
  | 5 => .int
  | _ => .int
abbrev wsX20 : List Cond := u_ws RX2 TX2 7
theorem nmX2 : ∀ a, a < 7 → ∀ b, b < 7 → a ≠ b → (TX2 a).2.1 ≠ (TX2 b).2.1 := by decide +kernel
theorem tyX2_ok : ∀ k, k < 7 → parseFieldDescriptor (TX2 k).2.2.1 = some (tyX2 k) := by decide +kernel
abbrev cX2_init : ByteArray := prog_4_method_1_code
def yX2_init : MethodName := ⟨RX2, "<init>", "()V"⟩
abbrev cX2_copyFrom : ByteArray := prog_4_method_2_code
def yX2_copyFrom : MethodName := ⟨RX2, "copyFrom", "(LEnergyDiscs$House;)V"⟩
abbrev cX2_meterAt : ByteArray := prog_4_method_3_code
def yX2_meterAt : MethodName := ⟨RX2, "meterAt", "(I)LEnergyDiscs$Meter;"⟩
abbrev cX2_loadAt : ByteArray := prog_4_method_4_code
def yX2_loadAt : MethodName := ⟨RX2, "loadAt", "(I)LEnergyDiscs$Load;"⟩
abbrev cX2_changeSetting : ByteArray := prog_4_method_5_code
def yX2_changeSetting : MethodName := ⟨RX2, "changeSetting", "(II)I"⟩
abbrev cX2_addMeter : ByteArray := prog_4_method_6_code
def yX2_addMeter : MethodName := ⟨RX2, "addMeter", "(I)I"⟩
abbrev cX2_addLoad : ByteArray := prog_4_method_7_code
def yX2_addLoad : MethodName := ⟨RX2, "addLoad", "(II)I"⟩
abbrev cX2_switchLoad : ByteArray := prog_4_method_8_code
def yX2_switchLoad : MethodName := ⟨RX2, "switchLoad", "(I)I"⟩
abbrev cX2_breakSeal : ByteArray := prog_4_method_9_code
def yX2_breakSeal : MethodName := ⟨RX2, "breakSeal", "(I)I"⟩
abbrev cX2_inspect : ByteArray := prog_4_method_10_code
def yX2_inspect : MethodName := ⟨RX2, "inspect", "(I)I"⟩
abbrev cX2_elapse : ByteArray := prog_4_method_11_code
def yX2_elapse : MethodName := ⟨RX2, "elapse", "(I)I"⟩
abbrev cX2_runDisc : ByteArray := prog_4_method_12_code
def yX2_runDisc : MethodName := ⟨RX2, "runDisc", "(LEnergyDiscs$Meter;II)I"⟩
abbrev cX2_minutesToTurn : ByteArray := prog_4_method_13_code
def yX2_minutesToTurn : MethodName := ⟨RX2, "minutesToTurn", "(LEnergyDiscs$Meter;I)I"⟩
abbrev cX2_owedAt : ByteArray := prog_4_method_14_code
def yX2_owedAt : MethodName := ⟨RX2, "owedAt", "(LEnergyDiscs$Meter;)I"⟩
abbrev cX2_powerOf : ByteArray := prog_4_method_15_code
def yX2_powerOf : MethodName := ⟨RX2, "powerOf", "(I)I"⟩
abbrev cX2_fedThrough : ByteArray := prog_4_method_16_code
def yX2_fedThrough : MethodName := ⟨RX2, "fedThrough", "(I)I"⟩
abbrev cX2_contains : ByteArray := prog_4_method_17_code
def yX2_contains : MethodName := ⟨RX2, "contains", "(II)Z"⟩
abbrev cX2_loadsOn : ByteArray := prog_4_method_18_code
def yX2_loadsOn : MethodName := ⟨RX2, "loadsOn", "()I"⟩
abbrev cX2_sealsBroken : ByteArray := prog_4_method_19_code
def yX2_sealsBroken : MethodName := ⟨RX2, "sealsBroken", "()I"⟩
abbrev cX2_allTurns : ByteArray := prog_4_method_20_code
def yX2_allTurns : MethodName := ⟨RX2, "allTurns", "()I"⟩
abbrev cX2_allBilled : ByteArray := prog_4_method_21_code
def yX2_allBilled : MethodName := ⟨RX2, "allBilled", "()I"⟩
abbrev cX2_mostMissing : ByteArray := prog_4_method_22_code
def yX2_mostMissing : MethodName := ⟨RX2, "mostMissing", "()I"⟩
abbrev cX2_turnsBehind : ByteArray := prog_4_method_23_code
def yX2_turnsBehind : MethodName := ⟨RX2, "turnsBehind", "(I)I"⟩
def RX3 : String := "EnergyDiscs$Load"
def TX3 : u_T := fun k => match k with
  | 0 => ("EnergyDiscs$Load", "behind", "I", false)
  | 1 => ("EnergyDiscs$Load", "power", "I", false)
  | _ => ("EnergyDiscs$Load", "on", "Z", false)
def tyX3 : Nat → FieldType := fun k => match k with
  | 0 => .int
  | 1 => .int
  | _ => .boolean
abbrev wsX30 : List Cond := u_ws RX3 TX3 3
theorem nmX3 : ∀ a, a < 3 → ∀ b, b < 3 → a ≠ b → (TX3 a).2.1 ≠ (TX3 b).2.1 := by decide +kernel
theorem tyX3_ok : ∀ k, k < 3 → parseFieldDescriptor (TX3 k).2.2.1 = some (tyX3 k) := by decide +kernel
abbrev cX3_init : ByteArray := prog_5_method_1_code
def yX3_init : MethodName := ⟨RX3, "<init>", "()V"⟩
abbrev cX3_begin : ByteArray := prog_5_method_2_code
def yX3_begin : MethodName := ⟨RX3, "begin", "(II)V"⟩
abbrev cX3_copyFrom : ByteArray := prog_5_method_3_code
def yX3_copyFrom : MethodName := ⟨RX3, "copyFrom", "(LEnergyDiscs$Load;)V"⟩
def RX4 : String := "EnergyDiscs$Meter"
def TX4 : u_T := fun k => match k with
  | 0 => ("EnergyDiscs$Meter", "through", "I", false)
  | 1 => ("EnergyDiscs$Meter", "place", "I", false)
  | 2 => ("EnergyDiscs$Meter", "speed", "I", false)
  | 3 => ("EnergyDiscs$Meter", "age", "I", false)
  | 4 => ("EnergyDiscs$Meter", "dayTurns", "I", false)
  | 5 => ("EnergyDiscs$Meter", "nightTurns", "I", false)
  | 6 => ("EnergyDiscs$Meter", "billedDayTurns", "I", false)
  | 7 => ("EnergyDiscs$Meter", "billedNightTurns", "I", false)
  | 8 => ("EnergyDiscs$Meter", "flowed", "J", false)
  | 9 => ("EnergyDiscs$Meter", "seal", "I", false)
  | 10 => ("EnergyDiscs$Meter", "broken", "Z", false)
  | 11 => ("EnergyDiscs$Meter", "billed", "I", false)
  | _ => ("EnergyDiscs$Meter", "visits", "I", false)
def tyX4 : Nat → FieldType := fun k => match k with
  | 0 => .int
  | 1 => .int
  | 2 => .int
  | 3 => .int
  | 4 => .int
  | 5 => .int
  | 6 => .int
  | 7 => .int
  | 8 => .long
  | 9 => .int
  | 10 => .boolean
  | 11 => .int
  | _ => .int
abbrev wsX40 : List Cond := u_ws RX4 TX4 13
theorem nmX4 : ∀ a, a < 13 → ∀ b, b < 13 → a ≠ b → (TX4 a).2.1 ≠ (TX4 b).2.1 := by decide +kernel
theorem tyX4_ok : ∀ k, k < 13 → parseFieldDescriptor (TX4 k).2.2.1 = some (tyX4 k) := by decide +kernel
abbrev cX4_init : ByteArray := prog_6_method_1_code
def yX4_init : MethodName := ⟨RX4, "<init>", "()V"⟩
abbrev cX4_begin : ByteArray := prog_6_method_2_code
def yX4_begin : MethodName := ⟨RX4, "begin", "(II)V"⟩
abbrev cX4_copyFrom : ByteArray := prog_6_method_3_code
def yX4_copyFrom : MethodName := ⟨RX4, "copyFrom", "(LEnergyDiscs$Meter;)V"⟩
abbrev cX4_turns : ByteArray := prog_6_method_4_code
def yX4_turns : MethodName := ⟨RX4, "turns", "()I"⟩
abbrev cX4_unbilledDayTurns : ByteArray := prog_6_method_5_code
def yX4_unbilledDayTurns : MethodName := ⟨RX4, "unbilledDayTurns", "()I"⟩
abbrev cX4_unbilledNightTurns : ByteArray := prog_6_method_6_code
def yX4_unbilledNightTurns : MethodName := ⟨RX4, "unbilledNightTurns", "()I"⟩
abbrev cX4_missed : ByteArray := prog_6_method_7_code
def yX4_missed : MethodName := ⟨RX4, "missed", "()J"⟩
abbrev cX4_minutesToWeaken : ByteArray := prog_6_method_8_code
def yX4_minutesToWeaken : MethodName := ⟨RX4, "minutesToWeaken", "(I)I"⟩
abbrev cX4_minutesToAge : ByteArray := prog_6_method_9_code
def yX4_minutesToAge : MethodName := ⟨RX4, "minutesToAge", "(I)I"⟩
abbrev cX4_run : ByteArray := prog_6_method_10_code
def yX4_run : MethodName := ⟨RX4, "run", "(II[IZ)I"⟩
abbrev cX4_wayIn : ByteArray := prog_6_method_11_code
def yX4_wayIn : MethodName := ⟨RX4, "wayIn", "(II[I)I"⟩
abbrev cX4_settleBill : ByteArray := prog_6_method_12_code
def yX4_settleBill : MethodName := ⟨RX4, "settleBill", "(I)V"⟩
abbrev cX4_mend : ByteArray := prog_6_method_13_code
def yX4_mend : MethodName := ⟨RX4, "mend", "(I)V"⟩
def RX5 : String := "EnergyDiscs$Pad"
def TX5 : u_T := fun k => match k with
  | 0 => ("EnergyDiscs$Pad", "signs", "[C", true)
  | _ => ("EnergyDiscs$Pad", "length", "I", false)
def tyX5 : Nat → FieldType := fun k => match k with
  | 0 => .array .char
  | _ => .int
abbrev wsX50 : List Cond := u_ws RX5 TX5 2
theorem nmX5 : ∀ a, a < 2 → ∀ b, b < 2 → a ≠ b → (TX5 a).2.1 ≠ (TX5 b).2.1 := by decide +kernel
theorem tyX5_ok : ∀ k, k < 2 → parseFieldDescriptor (TX5 k).2.2.1 = some (tyX5 k) := by decide +kernel
abbrev cX5_init : ByteArray := prog_7_method_1_code
def yX5_init : MethodName := ⟨RX5, "<init>", "()V"⟩
abbrev cX5_clear : ByteArray := prog_7_method_2_code
def yX5_clear : MethodName := ⟨RX5, "clear", "()V"⟩
abbrev cX5_signAt : ByteArray := prog_7_method_3_code
def yX5_signAt : MethodName := ⟨RX5, "signAt", "(I)I"⟩
abbrev cX5_append : ByteArray := prog_7_method_4_code
def yX5_append : MethodName := ⟨RX5, "append", "(C)V"⟩
abbrev cX5_appendNumber : ByteArray := prog_7_method_5_code
def yX5_appendNumber : MethodName := ⟨RX5, "appendNumber", "(I)V"⟩
abbrev cX5_numberIn : ByteArray := prog_7_method_6_code
def yX5_numberIn : MethodName := ⟨RX5, "numberIn", "(II)I"⟩
abbrev cX5_signsIn : ByteArray := prog_7_method_7_code
def yX5_signsIn : MethodName := ⟨RX5, "signsIn", "(J)I"⟩
abbrev cX5_signOf : ByteArray := prog_7_method_8_code
def yX5_signOf : MethodName := ⟨RX5, "signOf", "(JI)C"⟩
def RX6 : String := "EnergyDiscs"
def TX6 : u_T := fun k => match k with
  | 0 => ("EnergyDiscs", "house", "LEnergyDiscs$House;", true)
  | 1 => ("EnergyDiscs", "probe", "LEnergyDiscs$Meter;", true)
  | 2 => ("EnergyDiscs", "pad", "LEnergyDiscs$Pad;", true)
  | 3 => ("EnergyDiscs", "history", "LEnergyDiscs$History;", true)
  | 4 => ("EnergyDiscs", "slots", "[LEnergyDiscs$House;", true)
  | _ => ("EnergyDiscs", "slotsUsed", "[Z", true)
def tyX6 : Nat → FieldType := fun k => match k with
  | 0 => .object "EnergyDiscs$House"
  | 1 => .object "EnergyDiscs$Meter"
  | 2 => .object "EnergyDiscs$Pad"
  | 3 => .object "EnergyDiscs$History"
  | 4 => .array (.object "EnergyDiscs$House")
  | _ => .array .boolean
abbrev wsX60 : List Cond := u_ws RX6 TX6 6
theorem nmX6 : ∀ a, a < 6 → ∀ b, b < 6 → a ≠ b → (TX6 a).2.1 ≠ (TX6 b).2.1 := by decide +kernel
theorem tyX6_ok : ∀ k, k < 6 → parseFieldDescriptor (TX6 k).2.2.1 = some (tyX6 k) := by decide +kernel
abbrev cX6_init : ByteArray := prog_1_method_1_code
def yX6_init : MethodName := ⟨RX6, "<init>", "()V"⟩
abbrev cX6_set : ByteArray := prog_1_method_2_code
def yX6_set : MethodName := ⟨RX6, "set", "(II)I"⟩
abbrev cX6_meter : ByteArray := prog_1_method_3_code
def yX6_meter : MethodName := ⟨RX6, "meter", "(I)I"⟩
abbrev cX6_load : ByteArray := prog_1_method_4_code
def yX6_load : MethodName := ⟨RX6, "load", "(II)I"⟩
abbrev cX6_turn : ByteArray := prog_1_method_5_code
def yX6_turn : MethodName := ⟨RX6, "turn", "(I)I"⟩
abbrev cX6_tamper : ByteArray := prog_1_method_6_code
def yX6_tamper : MethodName := ⟨RX6, "tamper", "(I)I"⟩
abbrev cX6_visit : ByteArray := prog_1_method_7_code
def yX6_visit : MethodName := ⟨RX6, "visit", "(I)I"⟩
abbrev cX6_pass : ByteArray := prog_1_method_8_code
def yX6_pass : MethodName := ⟨RX6, "pass", "(I)I"⟩
abbrev cX6_write : ByteArray := prog_1_method_9_code
def yX6_write : MethodName := ⟨RX6, "write", "(I)I"⟩
abbrev cX6_sign : ByteArray := prog_1_method_10_code
def yX6_sign : MethodName := ⟨RX6, "sign", "(I)I"⟩
abbrev cX6_of : ByteArray := prog_1_method_11_code
def yX6_of : MethodName := ⟨RX6, "of", "(II)I"⟩
abbrev cX6_ofLoad : ByteArray := prog_1_method_12_code
def yX6_ofLoad : MethodName := ⟨RX6, "ofLoad", "(II)I"⟩
abbrev cX6_misses : ByteArray := prog_1_method_13_code
def yX6_misses : MethodName := ⟨RX6, "misses", "(I)J"⟩
abbrev cX6_fed : ByteArray := prog_1_method_14_code
def yX6_fed : MethodName := ⟨RX6, "fed", "(I)I"⟩
abbrev cX6_count : ByteArray := prog_1_method_15_code
def yX6_count : MethodName := ⟨RX6, "count", "(I)I"⟩
abbrev cX6_bill : ByteArray := prog_1_method_16_code
def yX6_bill : MethodName := ⟨RX6, "bill", "(I)I"⟩
abbrev cX6_turnsIn : ByteArray := prog_1_method_17_code
def yX6_turnsIn : MethodName := ⟨RX6, "turnsIn", "(I)I"⟩
abbrev cX6_wouldTurn : ByteArray := prog_1_method_18_code
def yX6_wouldTurn : MethodName := ⟨RX6, "wouldTurn", "(III)I"⟩
abbrev cX6_worst : ByteArray := prog_1_method_19_code
def yX6_worst : MethodName := ⟨RX6, "worst", "()I"⟩
abbrev cX6_lags : ByteArray := prog_1_method_20_code
def yX6_lags : MethodName := ⟨RX6, "lags", "(I)I"⟩
abbrev cX6_put : ByteArray := prog_1_method_21_code
def yX6_put : MethodName := ⟨RX6, "put", "(J)I"⟩
abbrev cX6_wipe : ByteArray := prog_1_method_22_code
def yX6_wipe : MethodName := ⟨RX6, "wipe", "()I"⟩
abbrev cX6_fault : ByteArray := prog_1_method_23_code
def yX6_fault : MethodName := ⟨RX6, "fault", "()I"⟩
abbrev cX6_carryOut : ByteArray := prog_1_method_24_code
def yX6_carryOut : MethodName := ⟨RX6, "carryOut", "()I"⟩
abbrev cX6_carryOneOut : ByteArray := prog_1_method_25_code
def yX6_carryOneOut : MethodName := ⟨RX6, "carryOneOut", "(II)I"⟩
abbrev cX6_undo : ByteArray := prog_1_method_26_code
def yX6_undo : MethodName := ⟨RX6, "undo", "()I"⟩
abbrev cX6_save : ByteArray := prog_1_method_27_code
def yX6_save : MethodName := ⟨RX6, "save", "(I)I"⟩
abbrev cX6_restore : ByteArray := prog_1_method_28_code
def yX6_restore : MethodName := ⟨RX6, "restore", "(I)I"⟩
abbrev cX6_isNight : ByteArray := prog_1_method_29_code
def yX6_isNight : MethodName := ⟨RX6, "isNight", "(I)Z"⟩
abbrev cX6_minutesToSwitch : ByteArray := prog_1_method_30_code
def yX6_minutesToSwitch : MethodName := ⟨RX6, "minutesToSwitch", "(I)I"⟩
def RX7 : String := "EnergyDiscsModel"
def TX7 : u_T := fun k => match k with
  | 0 => ("EnergyDiscsModel", "s", "[J", true)
  | 1 => ("EnergyDiscsModel", "past", "[J", true)
  | 2 => ("EnergyDiscsModel", "known", "I", false)
  | 3 => ("EnergyDiscsModel", "slots", "[J", true)
  | 4 => ("EnergyDiscsModel", "isSaved", "[Z", true)
  | 5 => ("EnergyDiscsModel", "pad", "[I", true)
  | _ => ("EnergyDiscsModel", "length", "I", false)
def tyX7 : Nat → FieldType := fun k => match k with
  | 0 => .array .long
  | 1 => .array .long
  | 2 => .int
  | 3 => .array .long
  | 4 => .array .boolean
  | 5 => .array .int
  | _ => .int
abbrev wsX70 : List Cond := u_ws RX7 TX7 7
theorem nmX7 : ∀ a, a < 7 → ∀ b, b < 7 → a ≠ b → (TX7 a).2.1 ≠ (TX7 b).2.1 := by decide +kernel
theorem tyX7_ok : ∀ k, k < 7 → parseFieldDescriptor (TX7 k).2.2.1 = some (tyX7 k) := by decide +kernel
abbrev cX7_init : ByteArray := prog_9_method_1_code
def yX7_init : MethodName := ⟨RX7, "<init>", "()V"⟩
abbrev cX7_in : ByteArray := prog_9_method_3_code
def yX7_in : MethodName := ⟨RX7, "in", "(III)Z"⟩
abbrev cX7_num : ByteArray := prog_9_method_4_code
def yX7_num : MethodName := ⟨RX7, "num", "(I)I"⟩
abbrev cX7_isMeter : ByteArray := prog_9_method_5_code
def yX7_isMeter : MethodName := ⟨RX7, "isMeter", "(I)Z"⟩
abbrev cX7_at : ByteArray := prog_9_method_6_code
def yX7_at : MethodName := ⟨RX7, "at", "(II)I"⟩
abbrev cX7_its : ByteArray := prog_9_method_7_code
def yX7_its : MethodName := ⟨RX7, "its", "(II)I"⟩
abbrev cX7_remembers : ByteArray := prog_9_method_8_code
def yX7_remembers : MethodName := ⟨RX7, "remembers", "()V"⟩
abbrev cX7_copies : ByteArray := prog_9_method_9_code
def yX7_copies : MethodName := ⟨RX7, "copies", "()V"⟩
abbrev cX7_isThrough : ByteArray := prog_9_method_10_code
def yX7_isThrough : MethodName := ⟨RX7, "isThrough", "(II)Z"⟩
abbrev cX7_power : ByteArray := prog_9_method_11_code
def yX7_power : MethodName := ⟨RX7, "power", "(I)I"⟩
abbrev cX7_isNight : ByteArray := prog_9_method_12_code
def yX7_isNight : MethodName := ⟨RX7, "isNight", "(J)Z"⟩
abbrev cX7_goes : ByteArray := prog_9_method_13_code
def yX7_goes : MethodName := ⟨RX7, "goes", "(III)J"⟩
abbrev cX7_passesOne : ByteArray := prog_9_method_14_code
def yX7_passesOne : MethodName := ⟨RX7, "passesOne", "(II)I"⟩
abbrev cX7_passes : ByteArray := prog_9_method_15_code
def yX7_passes : MethodName := ⟨RX7, "passes", "(II)I"⟩
abbrev cX7_lowOf : ByteArray := prog_9_method_16_code
def yX7_lowOf : MethodName := ⟨RX7, "lowOf", "(I)I"⟩
abbrev cX7_highOf : ByteArray := prog_9_method_17_code
def yX7_highOf : MethodName := ⟨RX7, "highOf", "(I)I"⟩
abbrev cX7_set : ByteArray := prog_9_method_18_code
def yX7_set : MethodName := ⟨RX7, "set", "(II)I"⟩
abbrev cX7_whyNotMeter : ByteArray := prog_9_method_19_code
def yX7_whyNotMeter : MethodName := ⟨RX7, "whyNotMeter", "(I)I"⟩
abbrev cX7_comes : ByteArray := prog_9_method_20_code
def yX7_comes : MethodName := ⟨RX7, "comes", "(I)I"⟩
abbrev cX7_meter : ByteArray := prog_9_method_21_code
def yX7_meter : MethodName := ⟨RX7, "meter", "(I)I"⟩
abbrev cX7_whyNotLoad : ByteArray := prog_9_method_22_code
def yX7_whyNotLoad : MethodName := ⟨RX7, "whyNotLoad", "(II)I"⟩
abbrev cX7_loads : ByteArray := prog_9_method_23_code
def yX7_loads : MethodName := ⟨RX7, "loads", "(II)I"⟩
abbrev cX7_load : ByteArray := prog_9_method_24_code
def yX7_load : MethodName := ⟨RX7, "load", "(II)I"⟩
abbrev cX7_isLoad : ByteArray := prog_9_method_25_code
def yX7_isLoad : MethodName := ⟨RX7, "isLoad", "(I)Z"⟩
abbrev cX7_turns : ByteArray := prog_9_method_26_code
def yX7_turns : MethodName := ⟨RX7, "turns", "(I)I"⟩
abbrev cX7_turn : ByteArray := prog_9_method_27_code
def yX7_turn : MethodName := ⟨RX7, "turn", "(I)I"⟩
abbrev cX7_whyNotTamper : ByteArray := prog_9_method_28_code
def yX7_whyNotTamper : MethodName := ⟨RX7, "whyNotTamper", "(I)I"⟩
abbrev cX7_tamper : ByteArray := prog_9_method_29_code
def yX7_tamper : MethodName := ⟨RX7, "tamper", "(I)I"⟩
abbrev cX7_billOf : ByteArray := prog_9_method_30_code
def yX7_billOf : MethodName := ⟨RX7, "billOf", "(I)I"⟩
abbrev cX7_visits : ByteArray := prog_9_method_31_code
def yX7_visits : MethodName := ⟨RX7, "visits", "(I)I"⟩
abbrev cX7_visit : ByteArray := prog_9_method_32_code
def yX7_visit : MethodName := ⟨RX7, "visit", "(I)I"⟩
abbrev cX7_whyNotPass : ByteArray := prog_9_method_33_code
def yX7_whyNotPass : MethodName := ⟨RX7, "whyNotPass", "(I)I"⟩
abbrev cX7_pass : ByteArray := prog_9_method_34_code
def yX7_pass : MethodName := ⟨RX7, "pass", "(I)I"⟩
abbrev cX7_types : ByteArray := prog_9_method_35_code
def yX7_types : MethodName := ⟨RX7, "types", "(I)V"⟩
abbrev cX7_typesNumber : ByteArray := prog_9_method_36_code
def yX7_typesNumber : MethodName := ⟨RX7, "typesNumber", "(I)V"⟩
abbrev cX7_write : ByteArray := prog_9_method_37_code
def yX7_write : MethodName := ⟨RX7, "write", "(I)I"⟩
abbrev cX7_sign : ByteArray := prog_9_method_38_code
def yX7_sign : MethodName := ⟨RX7, "sign", "(I)I"⟩
abbrev cX7_untilWeaker : ByteArray := prog_9_method_39_code
def yX7_untilWeaker : MethodName := ⟨RX7, "untilWeaker", "(I)I"⟩
abbrev cX7_of : ByteArray := prog_9_method_40_code
def yX7_of : MethodName := ⟨RX7, "of", "(II)I"⟩
abbrev cX7_ofLoad : ByteArray := prog_9_method_41_code
def yX7_ofLoad : MethodName := ⟨RX7, "ofLoad", "(II)I"⟩
abbrev cX7_turnsOf : ByteArray := prog_9_method_42_code
def yX7_turnsOf : MethodName := ⟨RX7, "turnsOf", "(I)I"⟩
abbrev cX7_misses : ByteArray := prog_9_method_43_code
def yX7_misses : MethodName := ⟨RX7, "misses", "(I)J"⟩
abbrev cX7_fed : ByteArray := prog_9_method_44_code
def yX7_fed : MethodName := ⟨RX7, "fed", "(I)I"⟩
abbrev cX7_ofAll : ByteArray := prog_9_method_45_code
def yX7_ofAll : MethodName := ⟨RX7, "ofAll", "(I)I"⟩
abbrev cX7_count : ByteArray := prog_9_method_46_code
def yX7_count : MethodName := ⟨RX7, "count", "(I)I"⟩
abbrev cX7_bill : ByteArray := prog_9_method_47_code
def yX7_bill : MethodName := ⟨RX7, "bill", "(I)I"⟩
abbrev cX7_turnsIn : ByteArray := prog_9_method_48_code
def yX7_turnsIn : MethodName := ⟨RX7, "turnsIn", "(I)I"⟩
abbrev cX7_wouldTurn : ByteArray := prog_9_method_49_code
def yX7_wouldTurn : MethodName := ⟨RX7, "wouldTurn", "(III)I"⟩
abbrev cX7_worst : ByteArray := prog_9_method_50_code
def yX7_worst : MethodName := ⟨RX7, "worst", "()I"⟩
abbrev cX7_lags : ByteArray := prog_9_method_51_code
def yX7_lags : MethodName := ⟨RX7, "lags", "(I)I"⟩
abbrev cX7_put : ByteArray := prog_9_method_52_code
def yX7_put : MethodName := ⟨RX7, "put", "(J)I"⟩
abbrev cX7_wipe : ByteArray := prog_9_method_53_code
def yX7_wipe : MethodName := ⟨RX7, "wipe", "()I"⟩
abbrev cX7_digit : ByteArray := prog_9_method_54_code
def yX7_digit : MethodName := ⟨RX7, "digit", "(I)I"⟩
abbrev cX7_code : ByteArray := prog_9_method_55_code
def yX7_code : MethodName := ⟨RX7, "code", "(I)I"⟩
abbrev cX7_numberEnd : ByteArray := prog_9_method_56_code
def yX7_numberEnd : MethodName := ⟨RX7, "numberEnd", "(I)I"⟩
abbrev cX7_numberAt : ByteArray := prog_9_method_57_code
def yX7_numberAt : MethodName := ⟨RX7, "numberAt", "(I)I"⟩
abbrev cX7_orderEnd : ByteArray := prog_9_method_58_code
def yX7_orderEnd : MethodName := ⟨RX7, "orderEnd", "(I)I"⟩
abbrev cX7_fault : ByteArray := prog_9_method_59_code
def yX7_fault : MethodName := ⟨RX7, "fault", "()I"⟩
abbrev cX7_whyNot : ByteArray := prog_9_method_60_code
def yX7_whyNot : MethodName := ⟨RX7, "whyNot", "(I)I"⟩
abbrev cX7_does : ByteArray := prog_9_method_61_code
def yX7_does : MethodName := ⟨RX7, "does", "(I)I"⟩
abbrev cX7_carryOut : ByteArray := prog_9_method_62_code
def yX7_carryOut : MethodName := ⟨RX7, "carryOut", "()I"⟩
abbrev cX7_undo : ByteArray := prog_9_method_63_code
def yX7_undo : MethodName := ⟨RX7, "undo", "()I"⟩
abbrev cX7_save : ByteArray := prog_9_method_64_code
def yX7_save : MethodName := ⟨RX7, "save", "(I)I"⟩
abbrev cX7_restore : ByteArray := prog_9_method_65_code
def yX7_restore : MethodName := ⟨RX7, "restore", "(I)I"⟩
def RJ9 : String := "java/lang/Math"
def TJ9 : u_T := fun k => match k with
  | _ => ("", "", "", false)
def tyJ9 : Nat → FieldType := fun k => match k with
  | _ => .int
abbrev wsJ90 : List Cond := u_ws RJ9 TJ9 0
theorem nmJ9 : ∀ a, a < 0 → ∀ b, b < 0 → a ≠ b → (TJ9 a).2.1 ≠ (TJ9 b).2.1 := by decide +kernel
theorem tyJ9_ok : ∀ k, k < 0 → parseFieldDescriptor (TJ9 k).2.2.1 = some (tyJ9 k) := by decide +kernel
abbrev cJ9_max_7cf53 : ByteArray := prog_10_method_65_code
def yJ9_max_7cf53 : MethodName := ⟨RJ9, "max", "(II)I"⟩
abbrev cJ9_min_7cf53 : ByteArray := prog_10_method_69_code
def yJ9_min_7cf53 : MethodName := ⟨RJ9, "min", "(II)I"⟩
def RL : String := "EnergyDiscsLaw"
abbrev cL_law : ByteArray := code
def yL_law : MethodName := ⟨RL, "law", "([I)Z"⟩
def wsX5_signAt : List Cond := .code yX5_signAt cX5_signAt 2 (some .int) :: ([.fieldLink RX5 15 "EnergyDiscs$Pad" "length" "I", .fieldLink RX5 9 "EnergyDiscs$Pad" "signs" "[C"] ++ wsX50)
def wsX0_mayEnd : List Cond := .code yX0_mayEnd cX0_mayEnd 1 (some .boolean) :: ([])
def wsX0_stateAfterName : List Cond := .code yX0_stateAfterName cX0_stateAfterName 1 (some .int) :: ([])
def wsX0_ifDigit : List Cond := .code yX0_ifDigit cX0_ifDigit 2 (some .int) :: ([])
def wsX0_stateAfter : List Cond := .code yX0_stateAfter cX0_stateAfter 2 (some .int) :: ([.methodLink RX0 25 yX0_mayEnd, .static yX0_mayEnd, .initialized RX0, .code yX0_mayEnd cX0_mayEnd 1 (some .boolean), .methodLink RX0 29 yX0_stateAfterName, .static yX0_stateAfterName, .code yX0_stateAfterName cX0_stateAfterName 1 (some .int), .methodLink RX0 32 yX0_ifDigit, .static yX0_ifDigit, .code yX0_ifDigit cX0_ifDigit 2 (some .int)])
def wsX0_faultOf : List Cond := .code yX0_faultOf cX0_faultOf 3 (some .int) :: ([.fieldLink RX0 11 "EnergyDiscs$Pad" "length" "I", .methodLink RX0 17 yX5_signAt, .instanceMethod yX5_signAt, .selects RX5 yX5_signAt yX5_signAt, .initialized RX5, .code yX5_signAt cX5_signAt 2 (some .int), .fieldLink RX5 15 "EnergyDiscs$Pad" "length" "I", .fieldLink RX5 9 "EnergyDiscs$Pad" "signs" "[C", .methodLink RX0 21 yX0_stateAfter, .static yX0_stateAfter, .initialized RX0, .code yX0_stateAfter cX0_stateAfter 2 (some .int), .methodLink RX0 25 yX0_mayEnd, .static yX0_mayEnd, .code yX0_mayEnd cX0_mayEnd 1 (some .boolean), .methodLink RX0 29 yX0_stateAfterName, .static yX0_stateAfterName, .code yX0_stateAfterName cX0_stateAfterName 1 (some .int), .methodLink RX0 32 yX0_ifDigit, .static yX0_ifDigit, .code yX0_ifDigit cX0_ifDigit 2 (some .int)] ++ wsX50)
def wsX4_begin : List Cond := .code yX4_begin cX4_begin 3 none :: ([.fieldLink RX4 15 "EnergyDiscs$Meter" "through" "I", .fieldLink RX4 19 "EnergyDiscs$Meter" "place" "I", .fieldLink RX4 22 "EnergyDiscs$Meter" "speed" "I", .fieldLink RX4 25 "EnergyDiscs$Meter" "age" "I", .fieldLink RX4 28 "EnergyDiscs$Meter" "dayTurns" "I", .fieldLink RX4 31 "EnergyDiscs$Meter" "nightTurns" "I", .fieldLink RX4 34 "EnergyDiscs$Meter" "billedDayTurns" "I", .fieldLink RX4 37 "EnergyDiscs$Meter" "billedNightTurns" "I", .fieldLink RX4 40 "EnergyDiscs$Meter" "flowed" "J", .fieldLink RX4 44 "EnergyDiscs$Meter" "seal" "I", .fieldLink RX4 47 "EnergyDiscs$Meter" "broken" "Z", .fieldLink RX4 51 "EnergyDiscs$Meter" "billed" "I", .fieldLink RX4 54 "EnergyDiscs$Meter" "visits" "I"] ++ wsX40)
def wsX4_init : List Cond := .code yX4_init cX4_init 1 none :: ([.methodLink RX4 3 objectInit, .instanceMethod objectInit, .code objectInit ⟨#[0xb1]⟩ 1 none, .methodLink RX4 9 yX4_begin, .instanceMethod yX4_begin, .selects RX4 yX4_begin yX4_begin, .initialized RX4, .code yX4_begin cX4_begin 3 none, .fieldLink RX4 15 "EnergyDiscs$Meter" "through" "I", .fieldLink RX4 19 "EnergyDiscs$Meter" "place" "I", .fieldLink RX4 22 "EnergyDiscs$Meter" "speed" "I", .fieldLink RX4 25 "EnergyDiscs$Meter" "age" "I", .fieldLink RX4 28 "EnergyDiscs$Meter" "dayTurns" "I", .fieldLink RX4 31 "EnergyDiscs$Meter" "nightTurns" "I", .fieldLink RX4 34 "EnergyDiscs$Meter" "billedDayTurns" "I", .fieldLink RX4 37 "EnergyDiscs$Meter" "billedNightTurns" "I", .fieldLink RX4 40 "EnergyDiscs$Meter" "flowed" "J", .fieldLink RX4 44 "EnergyDiscs$Meter" "seal" "I", .fieldLink RX4 47 "EnergyDiscs$Meter" "broken" "Z", .fieldLink RX4 51 "EnergyDiscs$Meter" "billed" "I", .fieldLink RX4 54 "EnergyDiscs$Meter" "visits" "I"] ++ wsX40)
def wsX3_begin : List Cond := .code yX3_begin cX3_begin 3 none :: ([.fieldLink RX3 13 "EnergyDiscs$Load" "behind" "I", .fieldLink RX3 17 "EnergyDiscs$Load" "power" "I", .fieldLink RX3 20 "EnergyDiscs$Load" "on" "Z"] ++ wsX30)
def wsX3_init : List Cond := .code yX3_init cX3_init 1 none :: ([.methodLink RX3 1 objectInit, .instanceMethod objectInit, .code objectInit ⟨#[0xb1]⟩ 1 none, .methodLink RX3 7 yX3_begin, .instanceMethod yX3_begin, .selects RX3 yX3_begin yX3_begin, .initialized RX3, .code yX3_begin cX3_begin 3 none, .fieldLink RX3 13 "EnergyDiscs$Load" "behind" "I", .fieldLink RX3 17 "EnergyDiscs$Load" "power" "I", .fieldLink RX3 20 "EnergyDiscs$Load" "on" "Z"] ++ wsX30)
def wsX2_init_r1 : List Cond := [Cond.methodLink RX2 3 objectInit, Cond.instanceMethod objectInit, Cond.code objectInit ⟨#[0xb1]⟩ 1 none, Cond.arrayClass .int, Cond.fieldLink RX2 9 "EnergyDiscs$House" "settings" "[I", Cond.classLink RX2 15 RX4, Cond.fieldLink RX2 17 "EnergyDiscs$House" "meters" "[LEnergyDiscs$Meter;", Cond.classLink RX2 21 RX3, Cond.fieldLink RX2 23 "EnergyDiscs$House" "loads" "[LEnergyDiscs$Load;", Cond.instantiable RX4 13, Cond.initialized RX4, Cond.instantiable RX3 3, Cond.initialized RX3, Cond.methodLink RX2 30 yX4_init, Cond.instanceMethod yX4_init, Cond.code yX4_init cX4_init 1 none, Cond.methodLink RX4 3 objectInit, Cond.methodLink RX4 9 yX4_begin, Cond.instanceMethod yX4_begin, Cond.selects RX4 yX4_begin yX4_begin, Cond.code yX4_begin cX4_begin 3 none, Cond.fieldLink RX4 15 "EnergyDiscs$Meter" "through" "I", Cond.fieldLink RX4 19 "EnergyDiscs$Meter" "place" "I", Cond.fieldLink RX4 22 "EnergyDiscs$Meter" "speed" "I"]
def wsX2_init_r2 : List Cond := [Cond.fieldLink RX4 25 "EnergyDiscs$Meter" "age" "I", Cond.fieldLink RX4 28 "EnergyDiscs$Meter" "dayTurns" "I", Cond.fieldLink RX4 31 "EnergyDiscs$Meter" "nightTurns" "I", Cond.fieldLink RX4 34 "EnergyDiscs$Meter" "billedDayTurns" "I", Cond.fieldLink RX4 37 "EnergyDiscs$Meter" "billedNightTurns" "I", Cond.fieldLink RX4 40 "EnergyDiscs$Meter" "flowed" "J", Cond.fieldLink RX4 44 "EnergyDiscs$Meter" "seal" "I", Cond.fieldLink RX4 47 "EnergyDiscs$Meter" "broken" "Z", Cond.fieldLink RX4 51 "EnergyDiscs$Meter" "billed" "I", Cond.fieldLink RX4 54 "EnergyDiscs$Meter" "visits" "I", Cond.methodLink RX2 31 yX3_init, Cond.instanceMethod yX3_init, Cond.code yX3_init cX3_init 1 none, Cond.methodLink RX3 1 objectInit, Cond.methodLink RX3 7 yX3_begin, Cond.instanceMethod yX3_begin, Cond.selects RX3 yX3_begin yX3_begin, Cond.code yX3_begin cX3_begin 3 none, Cond.fieldLink RX3 13 "EnergyDiscs$Load" "behind" "I", Cond.fieldLink RX3 17 "EnergyDiscs$Load" "power" "I", Cond.fieldLink RX3 20 "EnergyDiscs$Load" "on" "Z"]
def wsX2_init : List Cond := .code yX2_init cX2_init 2 none :: ((wsX2_init_r1 ++ wsX2_init_r2) ++ wsX20 ++ wsX40 ++ wsX30)
def wsX1_init_r1 : List Cond := [Cond.methodLink RX1 3 objectInit, Cond.instanceMethod objectInit, Cond.code objectInit ⟨#[0xb1]⟩ 1 none, Cond.classLink RX1 11 RX2, Cond.fieldLink RX1 13 "EnergyDiscs$History" "states" "[LEnergyDiscs$House;", Cond.instantiable RX2 7, Cond.initialized RX2, Cond.fieldLink RX1 18 "EnergyDiscs$History" "free" "I", Cond.fieldLink RX1 22 "EnergyDiscs$History" "kept" "I", Cond.methodLink RX1 17 yX2_init, Cond.instanceMethod yX2_init, Cond.code yX2_init cX2_init 2 none, Cond.methodLink RX2 3 objectInit, Cond.arrayClass .int, Cond.fieldLink RX2 9 "EnergyDiscs$House" "settings" "[I", Cond.classLink RX2 15 RX4, Cond.fieldLink RX2 17 "EnergyDiscs$House" "meters" "[LEnergyDiscs$Meter;", Cond.classLink RX2 21 RX3, Cond.fieldLink RX2 23 "EnergyDiscs$House" "loads" "[LEnergyDiscs$Load;", Cond.instantiable RX4 13, Cond.initialized RX4, Cond.instantiable RX3 3, Cond.initialized RX3, Cond.methodLink RX2 30 yX4_init]
def wsX1_init_r2 : List Cond := [Cond.instanceMethod yX4_init, Cond.code yX4_init cX4_init 1 none, Cond.methodLink RX4 3 objectInit, Cond.methodLink RX4 9 yX4_begin, Cond.instanceMethod yX4_begin, Cond.selects RX4 yX4_begin yX4_begin, Cond.code yX4_begin cX4_begin 3 none, Cond.fieldLink RX4 15 "EnergyDiscs$Meter" "through" "I", Cond.fieldLink RX4 19 "EnergyDiscs$Meter" "place" "I", Cond.fieldLink RX4 22 "EnergyDiscs$Meter" "speed" "I", Cond.fieldLink RX4 25 "EnergyDiscs$Meter" "age" "I", Cond.fieldLink RX4 28 "EnergyDiscs$Meter" "dayTurns" "I", Cond.fieldLink RX4 31 "EnergyDiscs$Meter" "nightTurns" "I", Cond.fieldLink RX4 34 "EnergyDiscs$Meter" "billedDayTurns" "I", Cond.fieldLink RX4 37 "EnergyDiscs$Meter" "billedNightTurns" "I", Cond.fieldLink RX4 40 "EnergyDiscs$Meter" "flowed" "J", Cond.fieldLink RX4 44 "EnergyDiscs$Meter" "seal" "I", Cond.fieldLink RX4 47 "EnergyDiscs$Meter" "broken" "Z", Cond.fieldLink RX4 51 "EnergyDiscs$Meter" "billed" "I", Cond.fieldLink RX4 54 "EnergyDiscs$Meter" "visits" "I", Cond.methodLink RX2 31 yX3_init, Cond.instanceMethod yX3_init, Cond.code yX3_init cX3_init 1 none, Cond.methodLink RX3 1 objectInit]
def wsX1_init_r3 : List Cond := [Cond.methodLink RX3 7 yX3_begin, Cond.instanceMethod yX3_begin, Cond.selects RX3 yX3_begin yX3_begin, Cond.code yX3_begin cX3_begin 3 none, Cond.fieldLink RX3 13 "EnergyDiscs$Load" "behind" "I", Cond.fieldLink RX3 17 "EnergyDiscs$Load" "power" "I", Cond.fieldLink RX3 20 "EnergyDiscs$Load" "on" "Z"]
def wsX1_init : List Cond := .code yX1_init cX1_init 2 none :: ((wsX1_init_r1 ++ (wsX1_init_r2 ++ wsX1_init_r3)) ++ wsX10 ++ wsX20 ++ wsX40 ++ wsX30)
def wsX4_copyFrom : List Cond := .code yX4_copyFrom cX4_copyFrom 2 none :: ([.fieldLink RX4 15 "EnergyDiscs$Meter" "through" "I", .fieldLink RX4 19 "EnergyDiscs$Meter" "place" "I", .fieldLink RX4 22 "EnergyDiscs$Meter" "speed" "I", .fieldLink RX4 25 "EnergyDiscs$Meter" "age" "I", .fieldLink RX4 28 "EnergyDiscs$Meter" "dayTurns" "I", .fieldLink RX4 31 "EnergyDiscs$Meter" "nightTurns" "I", .fieldLink RX4 34 "EnergyDiscs$Meter" "billedDayTurns" "I", .fieldLink RX4 37 "EnergyDiscs$Meter" "billedNightTurns" "I", .fieldLink RX4 40 "EnergyDiscs$Meter" "flowed" "J", .fieldLink RX4 44 "EnergyDiscs$Meter" "seal" "I", .fieldLink RX4 47 "EnergyDiscs$Meter" "broken" "Z", .fieldLink RX4 51 "EnergyDiscs$Meter" "billed" "I", .fieldLink RX4 54 "EnergyDiscs$Meter" "visits" "I"] ++ wsX40)
def wsX3_copyFrom : List Cond := .code yX3_copyFrom cX3_copyFrom 2 none :: ([.fieldLink RX3 13 "EnergyDiscs$Load" "behind" "I", .fieldLink RX3 17 "EnergyDiscs$Load" "power" "I", .fieldLink RX3 20 "EnergyDiscs$Load" "on" "Z"] ++ wsX30)
def wsX2_copyFrom_r1 : List Cond := [Cond.fieldLink RX2 9 "EnergyDiscs$House" "settings" "[I", Cond.fieldLink RX2 32 "EnergyDiscs$House" "meterCount" "I", Cond.fieldLink RX2 17 "EnergyDiscs$House" "meters" "[LEnergyDiscs$Meter;", Cond.fieldLink RX2 40 "EnergyDiscs$House" "loadCount" "I", Cond.fieldLink RX2 23 "EnergyDiscs$House" "loads" "[LEnergyDiscs$Load;", Cond.fieldLink RX2 46 "EnergyDiscs$House" "time" "I", Cond.fieldLink RX2 49 "EnergyDiscs$House" "greatestSeal" "I", Cond.methodLink RX2 36 yX4_copyFrom, Cond.instanceMethod yX4_copyFrom, Cond.selects RX4 yX4_copyFrom yX4_copyFrom, Cond.initialized RX4, Cond.code yX4_copyFrom cX4_copyFrom 2 none, Cond.fieldLink RX4 15 "EnergyDiscs$Meter" "through" "I", Cond.fieldLink RX4 19 "EnergyDiscs$Meter" "place" "I", Cond.fieldLink RX4 22 "EnergyDiscs$Meter" "speed" "I", Cond.fieldLink RX4 25 "EnergyDiscs$Meter" "age" "I", Cond.fieldLink RX4 28 "EnergyDiscs$Meter" "dayTurns" "I", Cond.fieldLink RX4 31 "EnergyDiscs$Meter" "nightTurns" "I", Cond.fieldLink RX4 34 "EnergyDiscs$Meter" "billedDayTurns" "I", Cond.fieldLink RX4 37 "EnergyDiscs$Meter" "billedNightTurns" "I", Cond.fieldLink RX4 40 "EnergyDiscs$Meter" "flowed" "J", Cond.fieldLink RX4 44 "EnergyDiscs$Meter" "seal" "I", Cond.fieldLink RX4 47 "EnergyDiscs$Meter" "broken" "Z", Cond.fieldLink RX4 51 "EnergyDiscs$Meter" "billed" "I"]
def wsX2_copyFrom_r2 : List Cond := [Cond.fieldLink RX4 54 "EnergyDiscs$Meter" "visits" "I", Cond.methodLink RX2 43 yX3_copyFrom, Cond.instanceMethod yX3_copyFrom, Cond.selects RX3 yX3_copyFrom yX3_copyFrom, Cond.initialized RX3, Cond.code yX3_copyFrom cX3_copyFrom 2 none, Cond.fieldLink RX3 13 "EnergyDiscs$Load" "behind" "I", Cond.fieldLink RX3 17 "EnergyDiscs$Load" "power" "I", Cond.fieldLink RX3 20 "EnergyDiscs$Load" "on" "Z"]
def wsX2_copyFrom : List Cond := .code yX2_copyFrom cX2_copyFrom 3 none :: ((wsX2_copyFrom_r1 ++ wsX2_copyFrom_r2) ++ wsX20 ++ wsX40 ++ wsX30)
def wsX1_prepare_r1 : List Cond := [Cond.fieldLink RX1 13 "EnergyDiscs$History" "states" "[LEnergyDiscs$House;", Cond.fieldLink RX1 18 "EnergyDiscs$History" "free" "I", Cond.methodLink RX1 25 yX2_copyFrom, Cond.instanceMethod yX2_copyFrom, Cond.selects RX2 yX2_copyFrom yX2_copyFrom, Cond.initialized RX2, Cond.code yX2_copyFrom cX2_copyFrom 3 none, Cond.fieldLink RX2 9 "EnergyDiscs$House" "settings" "[I", Cond.fieldLink RX2 32 "EnergyDiscs$House" "meterCount" "I", Cond.fieldLink RX2 17 "EnergyDiscs$House" "meters" "[LEnergyDiscs$Meter;", Cond.fieldLink RX2 40 "EnergyDiscs$House" "loadCount" "I", Cond.fieldLink RX2 23 "EnergyDiscs$House" "loads" "[LEnergyDiscs$Load;", Cond.fieldLink RX2 46 "EnergyDiscs$House" "time" "I", Cond.fieldLink RX2 49 "EnergyDiscs$House" "greatestSeal" "I", Cond.methodLink RX2 36 yX4_copyFrom, Cond.instanceMethod yX4_copyFrom, Cond.selects RX4 yX4_copyFrom yX4_copyFrom, Cond.initialized RX4, Cond.code yX4_copyFrom cX4_copyFrom 2 none, Cond.fieldLink RX4 15 "EnergyDiscs$Meter" "through" "I", Cond.fieldLink RX4 19 "EnergyDiscs$Meter" "place" "I", Cond.fieldLink RX4 22 "EnergyDiscs$Meter" "speed" "I", Cond.fieldLink RX4 25 "EnergyDiscs$Meter" "age" "I", Cond.fieldLink RX4 28 "EnergyDiscs$Meter" "dayTurns" "I"]
def wsX1_prepare_r2 : List Cond := [Cond.fieldLink RX4 31 "EnergyDiscs$Meter" "nightTurns" "I", Cond.fieldLink RX4 34 "EnergyDiscs$Meter" "billedDayTurns" "I", Cond.fieldLink RX4 37 "EnergyDiscs$Meter" "billedNightTurns" "I", Cond.fieldLink RX4 40 "EnergyDiscs$Meter" "flowed" "J", Cond.fieldLink RX4 44 "EnergyDiscs$Meter" "seal" "I", Cond.fieldLink RX4 47 "EnergyDiscs$Meter" "broken" "Z", Cond.fieldLink RX4 51 "EnergyDiscs$Meter" "billed" "I", Cond.fieldLink RX4 54 "EnergyDiscs$Meter" "visits" "I", Cond.methodLink RX2 43 yX3_copyFrom, Cond.instanceMethod yX3_copyFrom, Cond.selects RX3 yX3_copyFrom yX3_copyFrom, Cond.initialized RX3, Cond.code yX3_copyFrom cX3_copyFrom 2 none, Cond.fieldLink RX3 13 "EnergyDiscs$Load" "behind" "I", Cond.fieldLink RX3 17 "EnergyDiscs$Load" "power" "I", Cond.fieldLink RX3 20 "EnergyDiscs$Load" "on" "Z"]
def wsX1_prepare : List Cond := .code yX1_prepare cX1_prepare 2 none :: ((wsX1_prepare_r1 ++ wsX1_prepare_r2) ++ wsX10 ++ wsX20 ++ wsX40 ++ wsX30)
def wsX1_settle : List Cond := .code yX1_settle cX1_settle 2 (some .int) :: ([.fieldLink RX1 18 "EnergyDiscs$History" "free" "I", .fieldLink RX1 22 "EnergyDiscs$History" "kept" "I", .methodLink RX1 29 Lib.Math.min.name, .static Lib.Math.min.name, .initialized "java/lang/Math", .code Lib.Math.min.name Lib.Math.min.code 2 (some .int)] ++ wsX10)
def wsX1_takeLatest : List Cond := .code yX1_takeLatest cX1_takeLatest 1 (some (.object "EnergyDiscs$House")) :: ([.fieldLink RX1 22 "EnergyDiscs$History" "kept" "I", .fieldLink RX1 18 "EnergyDiscs$History" "free" "I", .fieldLink RX1 13 "EnergyDiscs$History" "states" "[LEnergyDiscs$House;"] ++ wsX10)
def wsX2_meterAt : List Cond := .code yX2_meterAt cX2_meterAt 2 (some (.object "EnergyDiscs$Meter")) :: ([.fieldLink RX2 32 "EnergyDiscs$House" "meterCount" "I", .fieldLink RX2 17 "EnergyDiscs$House" "meters" "[LEnergyDiscs$Meter;"] ++ wsX20)
def wsX2_loadAt : List Cond := .code yX2_loadAt cX2_loadAt 2 (some (.object "EnergyDiscs$Load")) :: ([.fieldLink RX2 40 "EnergyDiscs$House" "loadCount" "I", .fieldLink RX2 23 "EnergyDiscs$House" "loads" "[LEnergyDiscs$Load;"] ++ wsX20)
def wsX2_changeSetting : List Cond := .code yX2_changeSetting cX2_changeSetting 4 (some .int) :: ([.fieldLink RX2 9 "EnergyDiscs$House" "settings" "[I"] ++ wsX20)
def wsX2_addMeter_r1 : List Cond := [Cond.fieldLink RX2 32 "EnergyDiscs$House" "meterCount" "I", Cond.fieldLink RX2 49 "EnergyDiscs$House" "greatestSeal" "I", Cond.fieldLink RX2 17 "EnergyDiscs$House" "meters" "[LEnergyDiscs$Meter;", Cond.methodLink RX2 58 yX2_meterAt, Cond.instanceMethod yX2_meterAt, Cond.selects RX2 yX2_meterAt yX2_meterAt, Cond.initialized RX2, Cond.code yX2_meterAt cX2_meterAt 2 (some (.object "EnergyDiscs$Meter")), Cond.methodLink RX2 62 yX4_begin, Cond.instanceMethod yX4_begin, Cond.selects RX4 yX4_begin yX4_begin, Cond.initialized RX4, Cond.code yX4_begin cX4_begin 3 none, Cond.fieldLink RX4 15 "EnergyDiscs$Meter" "through" "I", Cond.fieldLink RX4 19 "EnergyDiscs$Meter" "place" "I", Cond.fieldLink RX4 22 "EnergyDiscs$Meter" "speed" "I", Cond.fieldLink RX4 25 "EnergyDiscs$Meter" "age" "I", Cond.fieldLink RX4 28 "EnergyDiscs$Meter" "dayTurns" "I", Cond.fieldLink RX4 31 "EnergyDiscs$Meter" "nightTurns" "I", Cond.fieldLink RX4 34 "EnergyDiscs$Meter" "billedDayTurns" "I", Cond.fieldLink RX4 37 "EnergyDiscs$Meter" "billedNightTurns" "I", Cond.fieldLink RX4 40 "EnergyDiscs$Meter" "flowed" "J", Cond.fieldLink RX4 44 "EnergyDiscs$Meter" "seal" "I", Cond.fieldLink RX4 47 "EnergyDiscs$Meter" "broken" "Z"]
def wsX2_addMeter_r2 : List Cond := [Cond.fieldLink RX4 51 "EnergyDiscs$Meter" "billed" "I", Cond.fieldLink RX4 54 "EnergyDiscs$Meter" "visits" "I"]
def wsX2_addMeter : List Cond := .code yX2_addMeter cX2_addMeter 2 (some .int) :: ((wsX2_addMeter_r1 ++ wsX2_addMeter_r2) ++ wsX20 ++ wsX40)
def wsX2_addLoad : List Cond := .code yX2_addLoad cX2_addLoad 3 (some .int) :: ([.fieldLink RX2 40 "EnergyDiscs$House" "loadCount" "I", .fieldLink RX2 23 "EnergyDiscs$House" "loads" "[LEnergyDiscs$Load;", .methodLink RX2 58 yX2_meterAt, .instanceMethod yX2_meterAt, .selects RX2 yX2_meterAt yX2_meterAt, .initialized RX2, .code yX2_meterAt cX2_meterAt 2 (some (.object "EnergyDiscs$Meter")), .fieldLink RX2 32 "EnergyDiscs$House" "meterCount" "I", .fieldLink RX2 17 "EnergyDiscs$House" "meters" "[LEnergyDiscs$Meter;", .methodLink RX2 66 yX3_begin, .instanceMethod yX3_begin, .selects RX3 yX3_begin yX3_begin, .initialized RX3, .code yX3_begin cX3_begin 3 none, .fieldLink RX3 13 "EnergyDiscs$Load" "behind" "I", .fieldLink RX3 17 "EnergyDiscs$Load" "power" "I", .fieldLink RX3 20 "EnergyDiscs$Load" "on" "Z"] ++ wsX20 ++ wsX30)
def wsX2_switchLoad : List Cond := .code yX2_switchLoad cX2_switchLoad 3 (some .int) :: ([.fieldLink RX2 71 "EnergyDiscs$Load" "on" "Z", .methodLink RX2 67 yX2_loadAt, .instanceMethod yX2_loadAt, .selects RX2 yX2_loadAt yX2_loadAt, .initialized RX2, .code yX2_loadAt cX2_loadAt 2 (some (.object "EnergyDiscs$Load")), .fieldLink RX2 40 "EnergyDiscs$House" "loadCount" "I", .fieldLink RX2 23 "EnergyDiscs$House" "loads" "[LEnergyDiscs$Load;"] ++ wsX30 ++ wsX20)
def wsX2_breakSeal : List Cond := .code yX2_breakSeal cX2_breakSeal 3 (some .int) :: ([.fieldLink RX2 75 "EnergyDiscs$Meter" "broken" "Z", .fieldLink RX2 78 "EnergyDiscs$Meter" "seal" "I", .methodLink RX2 58 yX2_meterAt, .instanceMethod yX2_meterAt, .selects RX2 yX2_meterAt yX2_meterAt, .initialized RX2, .code yX2_meterAt cX2_meterAt 2 (some (.object "EnergyDiscs$Meter")), .fieldLink RX2 32 "EnergyDiscs$House" "meterCount" "I", .fieldLink RX2 17 "EnergyDiscs$House" "meters" "[LEnergyDiscs$Meter;"] ++ wsX40 ++ wsX20)
def wsX4_unbilledDayTurns : List Cond := .code yX4_unbilledDayTurns cX4_unbilledDayTurns 1 (some .int) :: ([.fieldLink RX4 28 "EnergyDiscs$Meter" "dayTurns" "I", .fieldLink RX4 34 "EnergyDiscs$Meter" "billedDayTurns" "I"] ++ wsX40)
def wsX4_unbilledNightTurns : List Cond := .code yX4_unbilledNightTurns cX4_unbilledNightTurns 1 (some .int) :: ([.fieldLink RX4 31 "EnergyDiscs$Meter" "nightTurns" "I", .fieldLink RX4 37 "EnergyDiscs$Meter" "billedNightTurns" "I"] ++ wsX40)
def wsX2_owedAt : List Cond := .code yX2_owedAt cX2_owedAt 2 (some .int) :: ([.fieldLink RX2 9 "EnergyDiscs$House" "settings" "[I", .methodLink RX2 124 yX4_unbilledDayTurns, .instanceMethod yX4_unbilledDayTurns, .selects RX4 yX4_unbilledDayTurns yX4_unbilledDayTurns, .initialized RX4, .code yX4_unbilledDayTurns cX4_unbilledDayTurns 1 (some .int), .fieldLink RX4 28 "EnergyDiscs$Meter" "dayTurns" "I", .fieldLink RX4 34 "EnergyDiscs$Meter" "billedDayTurns" "I", .methodLink RX2 128 yX4_unbilledNightTurns, .instanceMethod yX4_unbilledNightTurns, .selects RX4 yX4_unbilledNightTurns yX4_unbilledNightTurns, .code yX4_unbilledNightTurns cX4_unbilledNightTurns 1 (some .int), .fieldLink RX4 31 "EnergyDiscs$Meter" "nightTurns" "I", .fieldLink RX4 37 "EnergyDiscs$Meter" "billedNightTurns" "I"] ++ wsX20 ++ wsX40)
def wsX4_settleBill : List Cond := .code yX4_settleBill cX4_settleBill 2 none :: ([.fieldLink RX4 51 "EnergyDiscs$Meter" "billed" "I", .fieldLink RX4 28 "EnergyDiscs$Meter" "dayTurns" "I", .fieldLink RX4 34 "EnergyDiscs$Meter" "billedDayTurns" "I", .fieldLink RX4 31 "EnergyDiscs$Meter" "nightTurns" "I", .fieldLink RX4 37 "EnergyDiscs$Meter" "billedNightTurns" "I", .fieldLink RX4 54 "EnergyDiscs$Meter" "visits" "I", .fieldLink RX4 22 "EnergyDiscs$Meter" "speed" "I", .fieldLink RX4 25 "EnergyDiscs$Meter" "age" "I"] ++ wsX40)
def wsX4_mend : List Cond := .code yX4_mend cX4_mend 2 none :: ([.fieldLink RX4 47 "EnergyDiscs$Meter" "broken" "Z", .fieldLink RX4 44 "EnergyDiscs$Meter" "seal" "I"] ++ wsX40)
def wsX2_inspect_r1 : List Cond := [Cond.fieldLink RX2 75 "EnergyDiscs$Meter" "broken" "Z", Cond.fieldLink RX2 49 "EnergyDiscs$House" "greatestSeal" "I", Cond.methodLink RX2 58 yX2_meterAt, Cond.instanceMethod yX2_meterAt, Cond.selects RX2 yX2_meterAt yX2_meterAt, Cond.initialized RX2, Cond.code yX2_meterAt cX2_meterAt 2 (some (.object "EnergyDiscs$Meter")), Cond.fieldLink RX2 32 "EnergyDiscs$House" "meterCount" "I", Cond.fieldLink RX2 17 "EnergyDiscs$House" "meters" "[LEnergyDiscs$Meter;", Cond.methodLink RX2 81 yX2_owedAt, Cond.instanceMethod yX2_owedAt, Cond.selects RX2 yX2_owedAt yX2_owedAt, Cond.code yX2_owedAt cX2_owedAt 2 (some .int), Cond.fieldLink RX2 9 "EnergyDiscs$House" "settings" "[I", Cond.methodLink RX2 124 yX4_unbilledDayTurns, Cond.instanceMethod yX4_unbilledDayTurns, Cond.selects RX4 yX4_unbilledDayTurns yX4_unbilledDayTurns, Cond.initialized RX4, Cond.code yX4_unbilledDayTurns cX4_unbilledDayTurns 1 (some .int), Cond.fieldLink RX4 28 "EnergyDiscs$Meter" "dayTurns" "I", Cond.fieldLink RX4 34 "EnergyDiscs$Meter" "billedDayTurns" "I", Cond.methodLink RX2 128 yX4_unbilledNightTurns, Cond.instanceMethod yX4_unbilledNightTurns, Cond.selects RX4 yX4_unbilledNightTurns yX4_unbilledNightTurns]
def wsX2_inspect_r2 : List Cond := [Cond.code yX4_unbilledNightTurns cX4_unbilledNightTurns 1 (some .int), Cond.fieldLink RX4 31 "EnergyDiscs$Meter" "nightTurns" "I", Cond.fieldLink RX4 37 "EnergyDiscs$Meter" "billedNightTurns" "I", Cond.methodLink RX2 85 yX4_settleBill, Cond.instanceMethod yX4_settleBill, Cond.selects RX4 yX4_settleBill yX4_settleBill, Cond.code yX4_settleBill cX4_settleBill 2 none, Cond.fieldLink RX4 51 "EnergyDiscs$Meter" "billed" "I", Cond.fieldLink RX4 54 "EnergyDiscs$Meter" "visits" "I", Cond.fieldLink RX4 22 "EnergyDiscs$Meter" "speed" "I", Cond.fieldLink RX4 25 "EnergyDiscs$Meter" "age" "I", Cond.methodLink RX2 89 yX4_mend, Cond.instanceMethod yX4_mend, Cond.selects RX4 yX4_mend yX4_mend, Cond.code yX4_mend cX4_mend 2 none, Cond.fieldLink RX4 47 "EnergyDiscs$Meter" "broken" "Z", Cond.fieldLink RX4 44 "EnergyDiscs$Meter" "seal" "I"]
def wsX2_inspect : List Cond := .code yX2_inspect cX2_inspect 4 (some .int) :: ((wsX2_inspect_r1 ++ wsX2_inspect_r2) ++ wsX40 ++ wsX20)
def wsX2_contains : List Cond := .code yX2_contains cX2_contains 2 (some .boolean) :: ([])
def wsX2_fedThrough : List Cond := .code yX2_fedThrough cX2_fedThrough 4 (some .int) :: ([.fieldLink RX2 32 "EnergyDiscs$House" "meterCount" "I", .fieldLink RX2 17 "EnergyDiscs$House" "meters" "[LEnergyDiscs$Meter;", .fieldLink RX2 144 "EnergyDiscs$Meter" "through" "I", .methodLink RX2 137 yX2_contains, .static yX2_contains, .initialized RX2, .code yX2_contains cX2_contains 2 (some .boolean)] ++ wsX20 ++ wsX40)
def wsX2_powerOf : List Cond := .code yX2_powerOf cX2_powerOf 5 (some .int) :: ([.fieldLink RX2 40 "EnergyDiscs$House" "loadCount" "I", .fieldLink RX2 23 "EnergyDiscs$House" "loads" "[LEnergyDiscs$Load;", .fieldLink RX2 71 "EnergyDiscs$Load" "on" "Z", .fieldLink RX2 134 "EnergyDiscs$Load" "behind" "I", .fieldLink RX2 141 "EnergyDiscs$Load" "power" "I", .methodLink RX2 131 yX2_fedThrough, .instanceMethod yX2_fedThrough, .selects RX2 yX2_fedThrough yX2_fedThrough, .initialized RX2, .code yX2_fedThrough cX2_fedThrough 4 (some .int), .fieldLink RX2 32 "EnergyDiscs$House" "meterCount" "I", .fieldLink RX2 17 "EnergyDiscs$House" "meters" "[LEnergyDiscs$Meter;", .fieldLink RX2 144 "EnergyDiscs$Meter" "through" "I", .methodLink RX2 137 yX2_contains, .static yX2_contains, .code yX2_contains cX2_contains 2 (some .boolean)] ++ wsX20 ++ wsX30 ++ wsX40)
def wsX6_minutesToSwitch : List Cond := .code yX6_minutesToSwitch cX6_minutesToSwitch 2 (some .int) :: ([])
def wsX4_minutesToAge : List Cond := .code yX4_minutesToAge cX4_minutesToAge 2 (some .int) :: ([.fieldLink RX4 25 "EnergyDiscs$Meter" "age" "I", .methodLink RX4 67 Lib.Math.max.name, .static Lib.Math.max.name, .initialized "java/lang/Math", .code Lib.Math.max.name Lib.Math.max.code 2 (some .int)] ++ wsX40)
def wsX6_isNight : List Cond := .code yX6_isNight cX6_isNight 2 (some .boolean) :: ([])
def wsX4_wayIn : List Cond := .code yX4_wayIn cX4_wayIn 5 (some .int) :: ([.fieldLink RX4 22 "EnergyDiscs$Meter" "speed" "I", .fieldLink RX4 47 "EnergyDiscs$Meter" "broken" "Z", .fieldLink RX4 19 "EnergyDiscs$Meter" "place" "I", .methodLink RX4 77 Lib.Math.min.name, .static Lib.Math.min.name, .initialized "java/lang/Math", .code Lib.Math.min.name Lib.Math.min.code 2 (some .int)] ++ wsX40)
def wsX4_run : List Cond := .code yX4_run cX4_run 6 (some .int) :: ([.fieldLink RX4 40 "EnergyDiscs$Meter" "flowed" "J", .fieldLink RX4 19 "EnergyDiscs$Meter" "place" "I", .fieldLink RX4 31 "EnergyDiscs$Meter" "nightTurns" "I", .fieldLink RX4 28 "EnergyDiscs$Meter" "dayTurns" "I", .fieldLink RX4 25 "EnergyDiscs$Meter" "age" "I", .fieldLink RX4 22 "EnergyDiscs$Meter" "speed" "I", .methodLink RX4 77 Lib.Math.min.name, .static Lib.Math.min.name, .initialized "java/lang/Math", .code Lib.Math.min.name Lib.Math.min.code 2 (some .int), .methodLink RX4 73 yX4_wayIn, .instanceMethod yX4_wayIn, .selects RX4 yX4_wayIn yX4_wayIn, .initialized RX4, .code yX4_wayIn cX4_wayIn 5 (some .int), .fieldLink RX4 47 "EnergyDiscs$Meter" "broken" "Z"] ++ wsX40)
def wsX2_runDisc_r1 : List Cond := [Cond.fieldLink RX2 46 "EnergyDiscs$House" "time" "I", Cond.fieldLink RX2 9 "EnergyDiscs$House" "settings" "[I", Cond.methodLink RX2 107 Lib.Math.min.name, Cond.static Lib.Math.min.name, Cond.initialized "java/lang/Math", Cond.code Lib.Math.min.name Lib.Math.min.code 2 (some .int), Cond.methodLink RX2 113 Lib.Math.max.name, Cond.static Lib.Math.max.name, Cond.code Lib.Math.max.name Lib.Math.max.code 2 (some .int), Cond.static yX6_minutesToSwitch, Cond.initialized RX6, Cond.code yX6_minutesToSwitch cX6_minutesToSwitch 2 (some .int), Cond.methodLink RX2 104 yX4_minutesToAge, Cond.instanceMethod yX4_minutesToAge, Cond.selects RX4 yX4_minutesToAge yX4_minutesToAge, Cond.initialized RX4, Cond.code yX4_minutesToAge cX4_minutesToAge 2 (some .int), Cond.fieldLink RX4 25 "EnergyDiscs$Meter" "age" "I", Cond.methodLink RX4 67 Lib.Math.max.name, Cond.static yX6_isNight, Cond.code yX6_isNight cX6_isNight 2 (some .boolean), Cond.methodLink RX2 120 yX4_run, Cond.instanceMethod yX4_run, Cond.selects RX4 yX4_run yX4_run]
def wsX2_runDisc_r2 : List Cond := [Cond.code yX4_run cX4_run 6 (some .int), Cond.fieldLink RX4 40 "EnergyDiscs$Meter" "flowed" "J", Cond.fieldLink RX4 19 "EnergyDiscs$Meter" "place" "I", Cond.fieldLink RX4 31 "EnergyDiscs$Meter" "nightTurns" "I", Cond.fieldLink RX4 28 "EnergyDiscs$Meter" "dayTurns" "I", Cond.fieldLink RX4 22 "EnergyDiscs$Meter" "speed" "I", Cond.methodLink RX4 77 Lib.Math.min.name, Cond.methodLink RX4 73 yX4_wayIn, Cond.instanceMethod yX4_wayIn, Cond.selects RX4 yX4_wayIn yX4_wayIn, Cond.code yX4_wayIn cX4_wayIn 5 (some .int), Cond.fieldLink RX4 47 "EnergyDiscs$Meter" "broken" "Z"]
def wsX2_runDisc : List Cond := .code yX2_runDisc cX2_runDisc 9 (some .int) :: ((wsX2_runDisc_r1 ++ wsX2_runDisc_r2) ++ wsX20 ++ wsX40)
def wsX2_elapse_r1 : List Cond := [Cond.fieldLink RX2 46 "EnergyDiscs$House" "time" "I", Cond.constant RX2 92 (99999), Cond.fieldLink RX2 32 "EnergyDiscs$House" "meterCount" "I", Cond.fieldLink RX2 17 "EnergyDiscs$House" "meters" "[LEnergyDiscs$Meter;", Cond.methodLink RX2 93 yX2_powerOf, Cond.instanceMethod yX2_powerOf, Cond.selects RX2 yX2_powerOf yX2_powerOf, Cond.initialized RX2, Cond.code yX2_powerOf cX2_powerOf 5 (some .int), Cond.fieldLink RX2 40 "EnergyDiscs$House" "loadCount" "I", Cond.fieldLink RX2 23 "EnergyDiscs$House" "loads" "[LEnergyDiscs$Load;", Cond.fieldLink RX2 71 "EnergyDiscs$Load" "on" "Z", Cond.fieldLink RX2 134 "EnergyDiscs$Load" "behind" "I", Cond.fieldLink RX2 141 "EnergyDiscs$Load" "power" "I", Cond.methodLink RX2 131 yX2_fedThrough, Cond.instanceMethod yX2_fedThrough, Cond.selects RX2 yX2_fedThrough yX2_fedThrough, Cond.code yX2_fedThrough cX2_fedThrough 4 (some .int), Cond.fieldLink RX2 144 "EnergyDiscs$Meter" "through" "I", Cond.methodLink RX2 137 yX2_contains, Cond.static yX2_contains, Cond.code yX2_contains cX2_contains 2 (some .boolean), Cond.methodLink RX2 97 yX2_runDisc, Cond.instanceMethod yX2_runDisc]
def wsX2_elapse_r2 : List Cond := [Cond.selects RX2 yX2_runDisc yX2_runDisc, Cond.code yX2_runDisc cX2_runDisc 9 (some .int), Cond.fieldLink RX2 9 "EnergyDiscs$House" "settings" "[I", Cond.methodLink RX2 107 Lib.Math.min.name, Cond.static Lib.Math.min.name, Cond.initialized "java/lang/Math", Cond.code Lib.Math.min.name Lib.Math.min.code 2 (some .int), Cond.methodLink RX2 113 Lib.Math.max.name, Cond.static Lib.Math.max.name, Cond.code Lib.Math.max.name Lib.Math.max.code 2 (some .int), Cond.static yX6_minutesToSwitch, Cond.initialized RX6, Cond.code yX6_minutesToSwitch cX6_minutesToSwitch 2 (some .int), Cond.methodLink RX2 104 yX4_minutesToAge, Cond.instanceMethod yX4_minutesToAge, Cond.selects RX4 yX4_minutesToAge yX4_minutesToAge, Cond.initialized RX4, Cond.code yX4_minutesToAge cX4_minutesToAge 2 (some .int), Cond.fieldLink RX4 25 "EnergyDiscs$Meter" "age" "I", Cond.methodLink RX4 67 Lib.Math.max.name, Cond.static yX6_isNight, Cond.code yX6_isNight cX6_isNight 2 (some .boolean), Cond.methodLink RX2 120 yX4_run, Cond.instanceMethod yX4_run]
def wsX2_elapse_r3 : List Cond := [Cond.selects RX4 yX4_run yX4_run, Cond.code yX4_run cX4_run 6 (some .int), Cond.fieldLink RX4 40 "EnergyDiscs$Meter" "flowed" "J", Cond.fieldLink RX4 19 "EnergyDiscs$Meter" "place" "I", Cond.fieldLink RX4 31 "EnergyDiscs$Meter" "nightTurns" "I", Cond.fieldLink RX4 28 "EnergyDiscs$Meter" "dayTurns" "I", Cond.fieldLink RX4 22 "EnergyDiscs$Meter" "speed" "I", Cond.methodLink RX4 77 Lib.Math.min.name, Cond.methodLink RX4 73 yX4_wayIn, Cond.instanceMethod yX4_wayIn, Cond.selects RX4 yX4_wayIn yX4_wayIn, Cond.code yX4_wayIn cX4_wayIn 5 (some .int), Cond.fieldLink RX4 47 "EnergyDiscs$Meter" "broken" "Z"]
def wsX2_elapse : List Cond := .code yX2_elapse cX2_elapse 4 (some .int) :: ((wsX2_elapse_r1 ++ (wsX2_elapse_r2 ++ wsX2_elapse_r3)) ++ wsX20 ++ wsX30 ++ wsX40)
def wsX2_minutesToTurn_r1 : List Cond := [Cond.fieldLink RX2 9 "EnergyDiscs$House" "settings" "[I", Cond.fieldLink RX2 46 "EnergyDiscs$House" "time" "I", Cond.static yX6_isNight, Cond.initialized RX6, Cond.code yX6_isNight cX6_isNight 2 (some .boolean), Cond.methodLink RX2 120 yX4_run, Cond.instanceMethod yX4_run, Cond.selects RX4 yX4_run yX4_run, Cond.initialized RX4, Cond.code yX4_run cX4_run 6 (some .int), Cond.fieldLink RX4 40 "EnergyDiscs$Meter" "flowed" "J", Cond.fieldLink RX4 19 "EnergyDiscs$Meter" "place" "I", Cond.fieldLink RX4 31 "EnergyDiscs$Meter" "nightTurns" "I", Cond.fieldLink RX4 28 "EnergyDiscs$Meter" "dayTurns" "I", Cond.fieldLink RX4 25 "EnergyDiscs$Meter" "age" "I", Cond.fieldLink RX4 22 "EnergyDiscs$Meter" "speed" "I", Cond.methodLink RX4 77 Lib.Math.min.name, Cond.static Lib.Math.min.name, Cond.initialized "java/lang/Math", Cond.code Lib.Math.min.name Lib.Math.min.code 2 (some .int), Cond.methodLink RX4 73 yX4_wayIn, Cond.instanceMethod yX4_wayIn, Cond.selects RX4 yX4_wayIn yX4_wayIn, Cond.code yX4_wayIn cX4_wayIn 5 (some .int)]
def wsX2_minutesToTurn_r2 : List Cond := [Cond.fieldLink RX4 47 "EnergyDiscs$Meter" "broken" "Z"]
def wsX2_minutesToTurn : List Cond := .code yX2_minutesToTurn cX2_minutesToTurn 4 (some .int) :: ((wsX2_minutesToTurn_r1 ++ wsX2_minutesToTurn_r2) ++ wsX20 ++ wsX40)
def wsX2_loadsOn : List Cond := .code yX2_loadsOn cX2_loadsOn 3 (some .int) :: ([.fieldLink RX2 40 "EnergyDiscs$House" "loadCount" "I", .fieldLink RX2 23 "EnergyDiscs$House" "loads" "[LEnergyDiscs$Load;", .fieldLink RX2 71 "EnergyDiscs$Load" "on" "Z"] ++ wsX20 ++ wsX30)
def wsX2_sealsBroken : List Cond := .code yX2_sealsBroken cX2_sealsBroken 3 (some .int) :: ([.fieldLink RX2 32 "EnergyDiscs$House" "meterCount" "I", .fieldLink RX2 17 "EnergyDiscs$House" "meters" "[LEnergyDiscs$Meter;", .fieldLink RX2 75 "EnergyDiscs$Meter" "broken" "Z"] ++ wsX20 ++ wsX40)
def wsX4_turns : List Cond := .code yX4_turns cX4_turns 1 (some .int) :: ([.fieldLink RX4 28 "EnergyDiscs$Meter" "dayTurns" "I", .fieldLink RX4 31 "EnergyDiscs$Meter" "nightTurns" "I"] ++ wsX40)
def wsX2_allTurns : List Cond := .code yX2_allTurns cX2_allTurns 3 (some .int) :: ([.fieldLink RX2 32 "EnergyDiscs$House" "meterCount" "I", .fieldLink RX2 17 "EnergyDiscs$House" "meters" "[LEnergyDiscs$Meter;", .methodLink RX2 147 yX4_turns, .instanceMethod yX4_turns, .selects RX4 yX4_turns yX4_turns, .initialized RX4, .code yX4_turns cX4_turns 1 (some .int), .fieldLink RX4 28 "EnergyDiscs$Meter" "dayTurns" "I", .fieldLink RX4 31 "EnergyDiscs$Meter" "nightTurns" "I"] ++ wsX20 ++ wsX40)
def wsX2_allBilled : List Cond := .code yX2_allBilled cX2_allBilled 3 (some .int) :: ([.fieldLink RX2 32 "EnergyDiscs$House" "meterCount" "I", .fieldLink RX2 17 "EnergyDiscs$House" "meters" "[LEnergyDiscs$Meter;", .fieldLink RX2 150 "EnergyDiscs$Meter" "billed" "I"] ++ wsX20 ++ wsX40)
def wsX4_missed : List Cond := .code yX4_missed cX4_missed 1 (some .long) :: ([.fieldLink RX4 40 "EnergyDiscs$Meter" "flowed" "J", .constantLong RX4 57 (6000), .fieldLink RX4 19 "EnergyDiscs$Meter" "place" "I", .methodLink RX4 59 yX4_turns, .instanceMethod yX4_turns, .selects RX4 yX4_turns yX4_turns, .initialized RX4, .code yX4_turns cX4_turns 1 (some .int), .fieldLink RX4 28 "EnergyDiscs$Meter" "dayTurns" "I", .fieldLink RX4 31 "EnergyDiscs$Meter" "nightTurns" "I"] ++ wsX40)
def wsX2_mostMissing : List Cond := .code yX2_mostMissing cX2_mostMissing 3 (some .int) :: ([.fieldLink RX2 32 "EnergyDiscs$House" "meterCount" "I", .fieldLink RX2 17 "EnergyDiscs$House" "meters" "[LEnergyDiscs$Meter;", .methodLink RX2 153 yX4_missed, .instanceMethod yX4_missed, .selects RX4 yX4_missed yX4_missed, .initialized RX4, .code yX4_missed cX4_missed 1 (some .long), .fieldLink RX4 40 "EnergyDiscs$Meter" "flowed" "J", .constantLong RX4 57 (6000), .fieldLink RX4 19 "EnergyDiscs$Meter" "place" "I", .methodLink RX4 59 yX4_turns, .instanceMethod yX4_turns, .selects RX4 yX4_turns yX4_turns, .code yX4_turns cX4_turns 1 (some .int), .fieldLink RX4 28 "EnergyDiscs$Meter" "dayTurns" "I", .fieldLink RX4 31 "EnergyDiscs$Meter" "nightTurns" "I"] ++ wsX20 ++ wsX40)
def wsX2_turnsBehind : List Cond := .code yX2_turnsBehind cX2_turnsBehind 4 (some .int) :: ([.fieldLink RX2 32 "EnergyDiscs$House" "meterCount" "I", .fieldLink RX2 17 "EnergyDiscs$House" "meters" "[LEnergyDiscs$Meter;", .fieldLink RX2 144 "EnergyDiscs$Meter" "through" "I", .methodLink RX2 147 yX4_turns, .instanceMethod yX4_turns, .selects RX4 yX4_turns yX4_turns, .initialized RX4, .code yX4_turns cX4_turns 1 (some .int), .fieldLink RX4 28 "EnergyDiscs$Meter" "dayTurns" "I", .fieldLink RX4 31 "EnergyDiscs$Meter" "nightTurns" "I"] ++ wsX20 ++ wsX40)
def wsX4_minutesToWeaken : List Cond := .code yX4_minutesToWeaken cX4_minutesToWeaken 2 (some .int) :: ([.fieldLink RX4 22 "EnergyDiscs$Meter" "speed" "I", .methodLink RX4 63 yX4_minutesToAge, .instanceMethod yX4_minutesToAge, .selects RX4 yX4_minutesToAge yX4_minutesToAge, .initialized RX4, .code yX4_minutesToAge cX4_minutesToAge 2 (some .int), .fieldLink RX4 25 "EnergyDiscs$Meter" "age" "I", .methodLink RX4 67 Lib.Math.max.name, .static Lib.Math.max.name, .initialized "java/lang/Math", .code Lib.Math.max.name Lib.Math.max.code 2 (some .int)] ++ wsX40)
def wsX5_init : List Cond := .code yX5_init cX5_init 1 none :: ([.methodLink RX5 3 objectInit, .instanceMethod objectInit, .code objectInit ⟨#[0xb1]⟩ 1 none, .arrayClass .char, .fieldLink RX5 9 "EnergyDiscs$Pad" "signs" "[C", .fieldLink RX5 15 "EnergyDiscs$Pad" "length" "I"] ++ wsX50)
def wsX5_clear : List Cond := .code yX5_clear cX5_clear 1 none :: ([.fieldLink RX5 15 "EnergyDiscs$Pad" "length" "I"] ++ wsX50)
def wsX5_append : List Cond := .code yX5_append cX5_append 2 none :: ([.fieldLink RX5 15 "EnergyDiscs$Pad" "length" "I", .fieldLink RX5 9 "EnergyDiscs$Pad" "signs" "[C"] ++ wsX50)
def wsX5_appendNumber : List Cond := .code yX5_appendNumber cX5_appendNumber 5 none :: ([.fieldLink RX5 15 "EnergyDiscs$Pad" "length" "I", .fieldLink RX5 9 "EnergyDiscs$Pad" "signs" "[C"] ++ wsX50)
def wsX5_numberIn : List Cond := .code yX5_numberIn cX5_numberIn 5 (some .int) :: ([.methodLink RX5 19 yX5_signAt, .instanceMethod yX5_signAt, .selects RX5 yX5_signAt yX5_signAt, .initialized RX5, .code yX5_signAt cX5_signAt 2 (some .int), .fieldLink RX5 15 "EnergyDiscs$Pad" "length" "I", .fieldLink RX5 9 "EnergyDiscs$Pad" "signs" "[C"] ++ wsX50)
def wsX5_signOf : List Cond := .code yX5_signOf cX5_signOf 3 (some .char) :: ([.constantLong RX5 27 (255)])
def wsX5_signsIn : List Cond := .code yX5_signsIn cX5_signsIn 4 (some .int) :: ([.methodLink RX5 23 yX5_signOf, .static yX5_signOf, .initialized RX5, .code yX5_signOf cX5_signOf 3 (some .char), .constantLong RX5 27 (255)])
def wsX6_init_r1 : List Cond := [Cond.methodLink RX6 1 objectInit, Cond.instanceMethod objectInit, Cond.code objectInit ⟨#[0xb1]⟩ 1 none, Cond.classLink RX6 7 RX2, Cond.instantiable RX2 7, Cond.initialized RX2, Cond.fieldLink RX6 10 "EnergyDiscs" "house" "LEnergyDiscs$House;", Cond.classLink RX6 16 RX4, Cond.instantiable RX4 13, Cond.initialized RX4, Cond.fieldLink RX6 19 "EnergyDiscs" "probe" "LEnergyDiscs$Meter;", Cond.classLink RX6 23 RX5, Cond.instantiable RX5 2, Cond.initialized RX5, Cond.fieldLink RX6 26 "EnergyDiscs" "pad" "LEnergyDiscs$Pad;", Cond.classLink RX6 30 RX1, Cond.instantiable RX1 3, Cond.initialized RX1, Cond.fieldLink RX6 33 "EnergyDiscs" "history" "LEnergyDiscs$History;", Cond.fieldLink RX6 37 "EnergyDiscs" "slots" "[LEnergyDiscs$House;", Cond.arrayClass .boolean, Cond.fieldLink RX6 41 "EnergyDiscs" "slotsUsed" "[Z", Cond.methodLink RX6 9 yX2_init, Cond.instanceMethod yX2_init]
def wsX6_init_r2 : List Cond := [Cond.code yX2_init cX2_init 2 none, Cond.methodLink RX2 3 objectInit, Cond.arrayClass .int, Cond.fieldLink RX2 9 "EnergyDiscs$House" "settings" "[I", Cond.classLink RX2 15 RX4, Cond.fieldLink RX2 17 "EnergyDiscs$House" "meters" "[LEnergyDiscs$Meter;", Cond.classLink RX2 21 RX3, Cond.fieldLink RX2 23 "EnergyDiscs$House" "loads" "[LEnergyDiscs$Load;", Cond.instantiable RX3 3, Cond.initialized RX3, Cond.methodLink RX2 30 yX4_init, Cond.instanceMethod yX4_init, Cond.code yX4_init cX4_init 1 none, Cond.methodLink RX4 3 objectInit, Cond.methodLink RX4 9 yX4_begin, Cond.instanceMethod yX4_begin, Cond.selects RX4 yX4_begin yX4_begin, Cond.code yX4_begin cX4_begin 3 none, Cond.fieldLink RX4 15 "EnergyDiscs$Meter" "through" "I", Cond.fieldLink RX4 19 "EnergyDiscs$Meter" "place" "I", Cond.fieldLink RX4 22 "EnergyDiscs$Meter" "speed" "I", Cond.fieldLink RX4 25 "EnergyDiscs$Meter" "age" "I", Cond.fieldLink RX4 28 "EnergyDiscs$Meter" "dayTurns" "I", Cond.fieldLink RX4 31 "EnergyDiscs$Meter" "nightTurns" "I"]
def wsX6_init_r3 : List Cond := [Cond.fieldLink RX4 34 "EnergyDiscs$Meter" "billedDayTurns" "I", Cond.fieldLink RX4 37 "EnergyDiscs$Meter" "billedNightTurns" "I", Cond.fieldLink RX4 40 "EnergyDiscs$Meter" "flowed" "J", Cond.fieldLink RX4 44 "EnergyDiscs$Meter" "seal" "I", Cond.fieldLink RX4 47 "EnergyDiscs$Meter" "broken" "Z", Cond.fieldLink RX4 51 "EnergyDiscs$Meter" "billed" "I", Cond.fieldLink RX4 54 "EnergyDiscs$Meter" "visits" "I", Cond.methodLink RX2 31 yX3_init, Cond.instanceMethod yX3_init, Cond.code yX3_init cX3_init 1 none, Cond.methodLink RX3 1 objectInit, Cond.methodLink RX3 7 yX3_begin, Cond.instanceMethod yX3_begin, Cond.selects RX3 yX3_begin yX3_begin, Cond.code yX3_begin cX3_begin 3 none, Cond.fieldLink RX3 13 "EnergyDiscs$Load" "behind" "I", Cond.fieldLink RX3 17 "EnergyDiscs$Load" "power" "I", Cond.fieldLink RX3 20 "EnergyDiscs$Load" "on" "Z", Cond.methodLink RX6 18 yX4_init, Cond.methodLink RX6 25 yX5_init, Cond.instanceMethod yX5_init, Cond.code yX5_init cX5_init 1 none, Cond.methodLink RX5 3 objectInit, Cond.arrayClass .char]
def wsX6_init_r4 : List Cond := [Cond.fieldLink RX5 9 "EnergyDiscs$Pad" "signs" "[C", Cond.fieldLink RX5 15 "EnergyDiscs$Pad" "length" "I", Cond.methodLink RX6 32 yX1_init, Cond.instanceMethod yX1_init, Cond.code yX1_init cX1_init 2 none, Cond.methodLink RX1 3 objectInit, Cond.classLink RX1 11 RX2, Cond.fieldLink RX1 13 "EnergyDiscs$History" "states" "[LEnergyDiscs$House;", Cond.fieldLink RX1 18 "EnergyDiscs$History" "free" "I", Cond.fieldLink RX1 22 "EnergyDiscs$History" "kept" "I", Cond.methodLink RX1 17 yX2_init]
def wsX6_init : List Cond := .code yX6_init cX6_init 2 none :: ((wsX6_init_r1 ++ (wsX6_init_r2 ++ (wsX6_init_r3 ++ wsX6_init_r4))) ++ wsX20 ++ wsX60 ++ wsX40 ++ wsX50 ++ wsX10 ++ wsX30)
def wsX6_set_r1 : List Cond := [Cond.fieldLink RX6 33 "EnergyDiscs" "history" "LEnergyDiscs$History;", Cond.fieldLink RX6 10 "EnergyDiscs" "house" "LEnergyDiscs$House;", Cond.methodLink RX6 45 yX1_prepare, Cond.instanceMethod yX1_prepare, Cond.selects RX1 yX1_prepare yX1_prepare, Cond.initialized RX1, Cond.code yX1_prepare cX1_prepare 2 none, Cond.fieldLink RX1 13 "EnergyDiscs$History" "states" "[LEnergyDiscs$House;", Cond.fieldLink RX1 18 "EnergyDiscs$History" "free" "I", Cond.methodLink RX1 25 yX2_copyFrom, Cond.instanceMethod yX2_copyFrom, Cond.selects RX2 yX2_copyFrom yX2_copyFrom, Cond.initialized RX2, Cond.code yX2_copyFrom cX2_copyFrom 3 none, Cond.fieldLink RX2 9 "EnergyDiscs$House" "settings" "[I", Cond.fieldLink RX2 32 "EnergyDiscs$House" "meterCount" "I", Cond.fieldLink RX2 17 "EnergyDiscs$House" "meters" "[LEnergyDiscs$Meter;", Cond.fieldLink RX2 40 "EnergyDiscs$House" "loadCount" "I", Cond.fieldLink RX2 23 "EnergyDiscs$House" "loads" "[LEnergyDiscs$Load;", Cond.fieldLink RX2 46 "EnergyDiscs$House" "time" "I", Cond.fieldLink RX2 49 "EnergyDiscs$House" "greatestSeal" "I", Cond.methodLink RX2 36 yX4_copyFrom, Cond.instanceMethod yX4_copyFrom, Cond.selects RX4 yX4_copyFrom yX4_copyFrom]
def wsX6_set_r2 : List Cond := [Cond.initialized RX4, Cond.code yX4_copyFrom cX4_copyFrom 2 none, Cond.fieldLink RX4 15 "EnergyDiscs$Meter" "through" "I", Cond.fieldLink RX4 19 "EnergyDiscs$Meter" "place" "I", Cond.fieldLink RX4 22 "EnergyDiscs$Meter" "speed" "I", Cond.fieldLink RX4 25 "EnergyDiscs$Meter" "age" "I", Cond.fieldLink RX4 28 "EnergyDiscs$Meter" "dayTurns" "I", Cond.fieldLink RX4 31 "EnergyDiscs$Meter" "nightTurns" "I", Cond.fieldLink RX4 34 "EnergyDiscs$Meter" "billedDayTurns" "I", Cond.fieldLink RX4 37 "EnergyDiscs$Meter" "billedNightTurns" "I", Cond.fieldLink RX4 40 "EnergyDiscs$Meter" "flowed" "J", Cond.fieldLink RX4 44 "EnergyDiscs$Meter" "seal" "I", Cond.fieldLink RX4 47 "EnergyDiscs$Meter" "broken" "Z", Cond.fieldLink RX4 51 "EnergyDiscs$Meter" "billed" "I", Cond.fieldLink RX4 54 "EnergyDiscs$Meter" "visits" "I", Cond.methodLink RX2 43 yX3_copyFrom, Cond.instanceMethod yX3_copyFrom, Cond.selects RX3 yX3_copyFrom yX3_copyFrom, Cond.initialized RX3, Cond.code yX3_copyFrom cX3_copyFrom 2 none, Cond.fieldLink RX3 13 "EnergyDiscs$Load" "behind" "I", Cond.fieldLink RX3 17 "EnergyDiscs$Load" "power" "I", Cond.fieldLink RX3 20 "EnergyDiscs$Load" "on" "Z", Cond.methodLink RX6 49 yX2_changeSetting]
def wsX6_set_r3 : List Cond := [Cond.instanceMethod yX2_changeSetting, Cond.selects RX2 yX2_changeSetting yX2_changeSetting, Cond.code yX2_changeSetting cX2_changeSetting 4 (some .int), Cond.methodLink RX6 53 yX1_settle, Cond.instanceMethod yX1_settle, Cond.selects RX1 yX1_settle yX1_settle, Cond.code yX1_settle cX1_settle 2 (some .int), Cond.fieldLink RX1 22 "EnergyDiscs$History" "kept" "I", Cond.methodLink RX1 29 Lib.Math.min.name, Cond.static Lib.Math.min.name, Cond.initialized "java/lang/Math", Cond.code Lib.Math.min.name Lib.Math.min.code 2 (some .int)]
def wsX6_set : List Cond := .code yX6_set cX6_set 3 (some .int) :: ((wsX6_set_r1 ++ (wsX6_set_r2 ++ wsX6_set_r3)) ++ wsX60 ++ wsX10 ++ wsX20 ++ wsX40 ++ wsX30)
def wsX6_meter_r1 : List Cond := [Cond.fieldLink RX6 33 "EnergyDiscs" "history" "LEnergyDiscs$History;", Cond.fieldLink RX6 10 "EnergyDiscs" "house" "LEnergyDiscs$House;", Cond.methodLink RX6 45 yX1_prepare, Cond.instanceMethod yX1_prepare, Cond.selects RX1 yX1_prepare yX1_prepare, Cond.initialized RX1, Cond.code yX1_prepare cX1_prepare 2 none, Cond.fieldLink RX1 13 "EnergyDiscs$History" "states" "[LEnergyDiscs$House;", Cond.fieldLink RX1 18 "EnergyDiscs$History" "free" "I", Cond.methodLink RX1 25 yX2_copyFrom, Cond.instanceMethod yX2_copyFrom, Cond.selects RX2 yX2_copyFrom yX2_copyFrom, Cond.initialized RX2, Cond.code yX2_copyFrom cX2_copyFrom 3 none, Cond.fieldLink RX2 9 "EnergyDiscs$House" "settings" "[I", Cond.fieldLink RX2 32 "EnergyDiscs$House" "meterCount" "I", Cond.fieldLink RX2 17 "EnergyDiscs$House" "meters" "[LEnergyDiscs$Meter;", Cond.fieldLink RX2 40 "EnergyDiscs$House" "loadCount" "I", Cond.fieldLink RX2 23 "EnergyDiscs$House" "loads" "[LEnergyDiscs$Load;", Cond.fieldLink RX2 46 "EnergyDiscs$House" "time" "I", Cond.fieldLink RX2 49 "EnergyDiscs$House" "greatestSeal" "I", Cond.methodLink RX2 36 yX4_copyFrom, Cond.instanceMethod yX4_copyFrom, Cond.selects RX4 yX4_copyFrom yX4_copyFrom]
def wsX6_meter_r2 : List Cond := [Cond.initialized RX4, Cond.code yX4_copyFrom cX4_copyFrom 2 none, Cond.fieldLink RX4 15 "EnergyDiscs$Meter" "through" "I", Cond.fieldLink RX4 19 "EnergyDiscs$Meter" "place" "I", Cond.fieldLink RX4 22 "EnergyDiscs$Meter" "speed" "I", Cond.fieldLink RX4 25 "EnergyDiscs$Meter" "age" "I", Cond.fieldLink RX4 28 "EnergyDiscs$Meter" "dayTurns" "I", Cond.fieldLink RX4 31 "EnergyDiscs$Meter" "nightTurns" "I", Cond.fieldLink RX4 34 "EnergyDiscs$Meter" "billedDayTurns" "I", Cond.fieldLink RX4 37 "EnergyDiscs$Meter" "billedNightTurns" "I", Cond.fieldLink RX4 40 "EnergyDiscs$Meter" "flowed" "J", Cond.fieldLink RX4 44 "EnergyDiscs$Meter" "seal" "I", Cond.fieldLink RX4 47 "EnergyDiscs$Meter" "broken" "Z", Cond.fieldLink RX4 51 "EnergyDiscs$Meter" "billed" "I", Cond.fieldLink RX4 54 "EnergyDiscs$Meter" "visits" "I", Cond.methodLink RX2 43 yX3_copyFrom, Cond.instanceMethod yX3_copyFrom, Cond.selects RX3 yX3_copyFrom yX3_copyFrom, Cond.initialized RX3, Cond.code yX3_copyFrom cX3_copyFrom 2 none, Cond.fieldLink RX3 13 "EnergyDiscs$Load" "behind" "I", Cond.fieldLink RX3 17 "EnergyDiscs$Load" "power" "I", Cond.fieldLink RX3 20 "EnergyDiscs$Load" "on" "Z", Cond.methodLink RX6 57 yX2_addMeter]
def wsX6_meter_r3 : List Cond := [Cond.instanceMethod yX2_addMeter, Cond.selects RX2 yX2_addMeter yX2_addMeter, Cond.code yX2_addMeter cX2_addMeter 2 (some .int), Cond.methodLink RX2 58 yX2_meterAt, Cond.instanceMethod yX2_meterAt, Cond.selects RX2 yX2_meterAt yX2_meterAt, Cond.code yX2_meterAt cX2_meterAt 2 (some (.object "EnergyDiscs$Meter")), Cond.methodLink RX2 62 yX4_begin, Cond.instanceMethod yX4_begin, Cond.selects RX4 yX4_begin yX4_begin, Cond.code yX4_begin cX4_begin 3 none, Cond.methodLink RX6 53 yX1_settle, Cond.instanceMethod yX1_settle, Cond.selects RX1 yX1_settle yX1_settle, Cond.code yX1_settle cX1_settle 2 (some .int), Cond.fieldLink RX1 22 "EnergyDiscs$History" "kept" "I", Cond.methodLink RX1 29 Lib.Math.min.name, Cond.static Lib.Math.min.name, Cond.initialized "java/lang/Math", Cond.code Lib.Math.min.name Lib.Math.min.code 2 (some .int)]
def wsX6_meter : List Cond := .code yX6_meter cX6_meter 2 (some .int) :: ((wsX6_meter_r1 ++ (wsX6_meter_r2 ++ wsX6_meter_r3)) ++ wsX60 ++ wsX10 ++ wsX20 ++ wsX40 ++ wsX30)
def wsX6_load_r1 : List Cond := [Cond.fieldLink RX6 33 "EnergyDiscs" "history" "LEnergyDiscs$History;", Cond.fieldLink RX6 10 "EnergyDiscs" "house" "LEnergyDiscs$House;", Cond.methodLink RX6 45 yX1_prepare, Cond.instanceMethod yX1_prepare, Cond.selects RX1 yX1_prepare yX1_prepare, Cond.initialized RX1, Cond.code yX1_prepare cX1_prepare 2 none, Cond.fieldLink RX1 13 "EnergyDiscs$History" "states" "[LEnergyDiscs$House;", Cond.fieldLink RX1 18 "EnergyDiscs$History" "free" "I", Cond.methodLink RX1 25 yX2_copyFrom, Cond.instanceMethod yX2_copyFrom, Cond.selects RX2 yX2_copyFrom yX2_copyFrom, Cond.initialized RX2, Cond.code yX2_copyFrom cX2_copyFrom 3 none, Cond.fieldLink RX2 9 "EnergyDiscs$House" "settings" "[I", Cond.fieldLink RX2 32 "EnergyDiscs$House" "meterCount" "I", Cond.fieldLink RX2 17 "EnergyDiscs$House" "meters" "[LEnergyDiscs$Meter;", Cond.fieldLink RX2 40 "EnergyDiscs$House" "loadCount" "I", Cond.fieldLink RX2 23 "EnergyDiscs$House" "loads" "[LEnergyDiscs$Load;", Cond.fieldLink RX2 46 "EnergyDiscs$House" "time" "I", Cond.fieldLink RX2 49 "EnergyDiscs$House" "greatestSeal" "I", Cond.methodLink RX2 36 yX4_copyFrom, Cond.instanceMethod yX4_copyFrom, Cond.selects RX4 yX4_copyFrom yX4_copyFrom]
def wsX6_load_r2 : List Cond := [Cond.initialized RX4, Cond.code yX4_copyFrom cX4_copyFrom 2 none, Cond.fieldLink RX4 15 "EnergyDiscs$Meter" "through" "I", Cond.fieldLink RX4 19 "EnergyDiscs$Meter" "place" "I", Cond.fieldLink RX4 22 "EnergyDiscs$Meter" "speed" "I", Cond.fieldLink RX4 25 "EnergyDiscs$Meter" "age" "I", Cond.fieldLink RX4 28 "EnergyDiscs$Meter" "dayTurns" "I", Cond.fieldLink RX4 31 "EnergyDiscs$Meter" "nightTurns" "I", Cond.fieldLink RX4 34 "EnergyDiscs$Meter" "billedDayTurns" "I", Cond.fieldLink RX4 37 "EnergyDiscs$Meter" "billedNightTurns" "I", Cond.fieldLink RX4 40 "EnergyDiscs$Meter" "flowed" "J", Cond.fieldLink RX4 44 "EnergyDiscs$Meter" "seal" "I", Cond.fieldLink RX4 47 "EnergyDiscs$Meter" "broken" "Z", Cond.fieldLink RX4 51 "EnergyDiscs$Meter" "billed" "I", Cond.fieldLink RX4 54 "EnergyDiscs$Meter" "visits" "I", Cond.methodLink RX2 43 yX3_copyFrom, Cond.instanceMethod yX3_copyFrom, Cond.selects RX3 yX3_copyFrom yX3_copyFrom, Cond.initialized RX3, Cond.code yX3_copyFrom cX3_copyFrom 2 none, Cond.fieldLink RX3 13 "EnergyDiscs$Load" "behind" "I", Cond.fieldLink RX3 17 "EnergyDiscs$Load" "power" "I", Cond.fieldLink RX3 20 "EnergyDiscs$Load" "on" "Z", Cond.methodLink RX6 60 yX2_addLoad]
def wsX6_load_r3 : List Cond := [Cond.instanceMethod yX2_addLoad, Cond.selects RX2 yX2_addLoad yX2_addLoad, Cond.code yX2_addLoad cX2_addLoad 3 (some .int), Cond.methodLink RX2 58 yX2_meterAt, Cond.instanceMethod yX2_meterAt, Cond.selects RX2 yX2_meterAt yX2_meterAt, Cond.code yX2_meterAt cX2_meterAt 2 (some (.object "EnergyDiscs$Meter")), Cond.methodLink RX2 66 yX3_begin, Cond.instanceMethod yX3_begin, Cond.selects RX3 yX3_begin yX3_begin, Cond.code yX3_begin cX3_begin 3 none, Cond.methodLink RX6 53 yX1_settle, Cond.instanceMethod yX1_settle, Cond.selects RX1 yX1_settle yX1_settle, Cond.code yX1_settle cX1_settle 2 (some .int), Cond.fieldLink RX1 22 "EnergyDiscs$History" "kept" "I", Cond.methodLink RX1 29 Lib.Math.min.name, Cond.static Lib.Math.min.name, Cond.initialized "java/lang/Math", Cond.code Lib.Math.min.name Lib.Math.min.code 2 (some .int)]
def wsX6_load : List Cond := .code yX6_load cX6_load 3 (some .int) :: ((wsX6_load_r1 ++ (wsX6_load_r2 ++ wsX6_load_r3)) ++ wsX60 ++ wsX10 ++ wsX20 ++ wsX40 ++ wsX30)
def wsX6_turn_r1 : List Cond := [Cond.fieldLink RX6 33 "EnergyDiscs" "history" "LEnergyDiscs$History;", Cond.fieldLink RX6 10 "EnergyDiscs" "house" "LEnergyDiscs$House;", Cond.methodLink RX6 45 yX1_prepare, Cond.instanceMethod yX1_prepare, Cond.selects RX1 yX1_prepare yX1_prepare, Cond.initialized RX1, Cond.code yX1_prepare cX1_prepare 2 none, Cond.fieldLink RX1 13 "EnergyDiscs$History" "states" "[LEnergyDiscs$House;", Cond.fieldLink RX1 18 "EnergyDiscs$History" "free" "I", Cond.methodLink RX1 25 yX2_copyFrom, Cond.instanceMethod yX2_copyFrom, Cond.selects RX2 yX2_copyFrom yX2_copyFrom, Cond.initialized RX2, Cond.code yX2_copyFrom cX2_copyFrom 3 none, Cond.fieldLink RX2 9 "EnergyDiscs$House" "settings" "[I", Cond.fieldLink RX2 32 "EnergyDiscs$House" "meterCount" "I", Cond.fieldLink RX2 17 "EnergyDiscs$House" "meters" "[LEnergyDiscs$Meter;", Cond.fieldLink RX2 40 "EnergyDiscs$House" "loadCount" "I", Cond.fieldLink RX2 23 "EnergyDiscs$House" "loads" "[LEnergyDiscs$Load;", Cond.fieldLink RX2 46 "EnergyDiscs$House" "time" "I", Cond.fieldLink RX2 49 "EnergyDiscs$House" "greatestSeal" "I", Cond.methodLink RX2 36 yX4_copyFrom, Cond.instanceMethod yX4_copyFrom, Cond.selects RX4 yX4_copyFrom yX4_copyFrom]
def wsX6_turn_r2 : List Cond := [Cond.initialized RX4, Cond.code yX4_copyFrom cX4_copyFrom 2 none, Cond.fieldLink RX4 15 "EnergyDiscs$Meter" "through" "I", Cond.fieldLink RX4 19 "EnergyDiscs$Meter" "place" "I", Cond.fieldLink RX4 22 "EnergyDiscs$Meter" "speed" "I", Cond.fieldLink RX4 25 "EnergyDiscs$Meter" "age" "I", Cond.fieldLink RX4 28 "EnergyDiscs$Meter" "dayTurns" "I", Cond.fieldLink RX4 31 "EnergyDiscs$Meter" "nightTurns" "I", Cond.fieldLink RX4 34 "EnergyDiscs$Meter" "billedDayTurns" "I", Cond.fieldLink RX4 37 "EnergyDiscs$Meter" "billedNightTurns" "I", Cond.fieldLink RX4 40 "EnergyDiscs$Meter" "flowed" "J", Cond.fieldLink RX4 44 "EnergyDiscs$Meter" "seal" "I", Cond.fieldLink RX4 47 "EnergyDiscs$Meter" "broken" "Z", Cond.fieldLink RX4 51 "EnergyDiscs$Meter" "billed" "I", Cond.fieldLink RX4 54 "EnergyDiscs$Meter" "visits" "I", Cond.methodLink RX2 43 yX3_copyFrom, Cond.instanceMethod yX3_copyFrom, Cond.selects RX3 yX3_copyFrom yX3_copyFrom, Cond.initialized RX3, Cond.code yX3_copyFrom cX3_copyFrom 2 none, Cond.fieldLink RX3 13 "EnergyDiscs$Load" "behind" "I", Cond.fieldLink RX3 17 "EnergyDiscs$Load" "power" "I", Cond.fieldLink RX3 20 "EnergyDiscs$Load" "on" "Z", Cond.methodLink RX6 63 yX2_switchLoad]
def wsX6_turn_r3 : List Cond := [Cond.instanceMethod yX2_switchLoad, Cond.selects RX2 yX2_switchLoad yX2_switchLoad, Cond.code yX2_switchLoad cX2_switchLoad 3 (some .int), Cond.fieldLink RX2 71 "EnergyDiscs$Load" "on" "Z", Cond.methodLink RX2 67 yX2_loadAt, Cond.instanceMethod yX2_loadAt, Cond.selects RX2 yX2_loadAt yX2_loadAt, Cond.code yX2_loadAt cX2_loadAt 2 (some (.object "EnergyDiscs$Load")), Cond.methodLink RX6 53 yX1_settle, Cond.instanceMethod yX1_settle, Cond.selects RX1 yX1_settle yX1_settle, Cond.code yX1_settle cX1_settle 2 (some .int), Cond.fieldLink RX1 22 "EnergyDiscs$History" "kept" "I", Cond.methodLink RX1 29 Lib.Math.min.name, Cond.static Lib.Math.min.name, Cond.initialized "java/lang/Math", Cond.code Lib.Math.min.name Lib.Math.min.code 2 (some .int)]
def wsX6_turn : List Cond := .code yX6_turn cX6_turn 2 (some .int) :: ((wsX6_turn_r1 ++ (wsX6_turn_r2 ++ wsX6_turn_r3)) ++ wsX60 ++ wsX10 ++ wsX20 ++ wsX40 ++ wsX30)
def wsX6_tamper_r1 : List Cond := [Cond.fieldLink RX6 33 "EnergyDiscs" "history" "LEnergyDiscs$History;", Cond.fieldLink RX6 10 "EnergyDiscs" "house" "LEnergyDiscs$House;", Cond.methodLink RX6 45 yX1_prepare, Cond.instanceMethod yX1_prepare, Cond.selects RX1 yX1_prepare yX1_prepare, Cond.initialized RX1, Cond.code yX1_prepare cX1_prepare 2 none, Cond.fieldLink RX1 13 "EnergyDiscs$History" "states" "[LEnergyDiscs$House;", Cond.fieldLink RX1 18 "EnergyDiscs$History" "free" "I", Cond.methodLink RX1 25 yX2_copyFrom, Cond.instanceMethod yX2_copyFrom, Cond.selects RX2 yX2_copyFrom yX2_copyFrom, Cond.initialized RX2, Cond.code yX2_copyFrom cX2_copyFrom 3 none, Cond.fieldLink RX2 9 "EnergyDiscs$House" "settings" "[I", Cond.fieldLink RX2 32 "EnergyDiscs$House" "meterCount" "I", Cond.fieldLink RX2 17 "EnergyDiscs$House" "meters" "[LEnergyDiscs$Meter;", Cond.fieldLink RX2 40 "EnergyDiscs$House" "loadCount" "I", Cond.fieldLink RX2 23 "EnergyDiscs$House" "loads" "[LEnergyDiscs$Load;", Cond.fieldLink RX2 46 "EnergyDiscs$House" "time" "I", Cond.fieldLink RX2 49 "EnergyDiscs$House" "greatestSeal" "I", Cond.methodLink RX2 36 yX4_copyFrom, Cond.instanceMethod yX4_copyFrom, Cond.selects RX4 yX4_copyFrom yX4_copyFrom]
def wsX6_tamper_r2 : List Cond := [Cond.initialized RX4, Cond.code yX4_copyFrom cX4_copyFrom 2 none, Cond.fieldLink RX4 15 "EnergyDiscs$Meter" "through" "I", Cond.fieldLink RX4 19 "EnergyDiscs$Meter" "place" "I", Cond.fieldLink RX4 22 "EnergyDiscs$Meter" "speed" "I", Cond.fieldLink RX4 25 "EnergyDiscs$Meter" "age" "I", Cond.fieldLink RX4 28 "EnergyDiscs$Meter" "dayTurns" "I", Cond.fieldLink RX4 31 "EnergyDiscs$Meter" "nightTurns" "I", Cond.fieldLink RX4 34 "EnergyDiscs$Meter" "billedDayTurns" "I", Cond.fieldLink RX4 37 "EnergyDiscs$Meter" "billedNightTurns" "I", Cond.fieldLink RX4 40 "EnergyDiscs$Meter" "flowed" "J", Cond.fieldLink RX4 44 "EnergyDiscs$Meter" "seal" "I", Cond.fieldLink RX4 47 "EnergyDiscs$Meter" "broken" "Z", Cond.fieldLink RX4 51 "EnergyDiscs$Meter" "billed" "I", Cond.fieldLink RX4 54 "EnergyDiscs$Meter" "visits" "I", Cond.methodLink RX2 43 yX3_copyFrom, Cond.instanceMethod yX3_copyFrom, Cond.selects RX3 yX3_copyFrom yX3_copyFrom, Cond.initialized RX3, Cond.code yX3_copyFrom cX3_copyFrom 2 none, Cond.fieldLink RX3 13 "EnergyDiscs$Load" "behind" "I", Cond.fieldLink RX3 17 "EnergyDiscs$Load" "power" "I", Cond.fieldLink RX3 20 "EnergyDiscs$Load" "on" "Z", Cond.methodLink RX6 66 yX2_breakSeal]
def wsX6_tamper_r3 : List Cond := [Cond.instanceMethod yX2_breakSeal, Cond.selects RX2 yX2_breakSeal yX2_breakSeal, Cond.code yX2_breakSeal cX2_breakSeal 3 (some .int), Cond.fieldLink RX2 75 "EnergyDiscs$Meter" "broken" "Z", Cond.fieldLink RX2 78 "EnergyDiscs$Meter" "seal" "I", Cond.methodLink RX2 58 yX2_meterAt, Cond.instanceMethod yX2_meterAt, Cond.selects RX2 yX2_meterAt yX2_meterAt, Cond.code yX2_meterAt cX2_meterAt 2 (some (.object "EnergyDiscs$Meter")), Cond.methodLink RX6 53 yX1_settle, Cond.instanceMethod yX1_settle, Cond.selects RX1 yX1_settle yX1_settle, Cond.code yX1_settle cX1_settle 2 (some .int), Cond.fieldLink RX1 22 "EnergyDiscs$History" "kept" "I", Cond.methodLink RX1 29 Lib.Math.min.name, Cond.static Lib.Math.min.name, Cond.initialized "java/lang/Math", Cond.code Lib.Math.min.name Lib.Math.min.code 2 (some .int)]
def wsX6_tamper : List Cond := .code yX6_tamper cX6_tamper 2 (some .int) :: ((wsX6_tamper_r1 ++ (wsX6_tamper_r2 ++ wsX6_tamper_r3)) ++ wsX60 ++ wsX10 ++ wsX20 ++ wsX40 ++ wsX30)
def wsX6_visit_r1 : List Cond := [Cond.fieldLink RX6 33 "EnergyDiscs" "history" "LEnergyDiscs$History;", Cond.fieldLink RX6 10 "EnergyDiscs" "house" "LEnergyDiscs$House;", Cond.methodLink RX6 45 yX1_prepare, Cond.instanceMethod yX1_prepare, Cond.selects RX1 yX1_prepare yX1_prepare, Cond.initialized RX1, Cond.code yX1_prepare cX1_prepare 2 none, Cond.fieldLink RX1 13 "EnergyDiscs$History" "states" "[LEnergyDiscs$House;", Cond.fieldLink RX1 18 "EnergyDiscs$History" "free" "I", Cond.methodLink RX1 25 yX2_copyFrom, Cond.instanceMethod yX2_copyFrom, Cond.selects RX2 yX2_copyFrom yX2_copyFrom, Cond.initialized RX2, Cond.code yX2_copyFrom cX2_copyFrom 3 none, Cond.fieldLink RX2 9 "EnergyDiscs$House" "settings" "[I", Cond.fieldLink RX2 32 "EnergyDiscs$House" "meterCount" "I", Cond.fieldLink RX2 17 "EnergyDiscs$House" "meters" "[LEnergyDiscs$Meter;", Cond.fieldLink RX2 40 "EnergyDiscs$House" "loadCount" "I", Cond.fieldLink RX2 23 "EnergyDiscs$House" "loads" "[LEnergyDiscs$Load;", Cond.fieldLink RX2 46 "EnergyDiscs$House" "time" "I", Cond.fieldLink RX2 49 "EnergyDiscs$House" "greatestSeal" "I", Cond.methodLink RX2 36 yX4_copyFrom, Cond.instanceMethod yX4_copyFrom, Cond.selects RX4 yX4_copyFrom yX4_copyFrom]
def wsX6_visit_r2 : List Cond := [Cond.initialized RX4, Cond.code yX4_copyFrom cX4_copyFrom 2 none, Cond.fieldLink RX4 15 "EnergyDiscs$Meter" "through" "I", Cond.fieldLink RX4 19 "EnergyDiscs$Meter" "place" "I", Cond.fieldLink RX4 22 "EnergyDiscs$Meter" "speed" "I", Cond.fieldLink RX4 25 "EnergyDiscs$Meter" "age" "I", Cond.fieldLink RX4 28 "EnergyDiscs$Meter" "dayTurns" "I", Cond.fieldLink RX4 31 "EnergyDiscs$Meter" "nightTurns" "I", Cond.fieldLink RX4 34 "EnergyDiscs$Meter" "billedDayTurns" "I", Cond.fieldLink RX4 37 "EnergyDiscs$Meter" "billedNightTurns" "I", Cond.fieldLink RX4 40 "EnergyDiscs$Meter" "flowed" "J", Cond.fieldLink RX4 44 "EnergyDiscs$Meter" "seal" "I", Cond.fieldLink RX4 47 "EnergyDiscs$Meter" "broken" "Z", Cond.fieldLink RX4 51 "EnergyDiscs$Meter" "billed" "I", Cond.fieldLink RX4 54 "EnergyDiscs$Meter" "visits" "I", Cond.methodLink RX2 43 yX3_copyFrom, Cond.instanceMethod yX3_copyFrom, Cond.selects RX3 yX3_copyFrom yX3_copyFrom, Cond.initialized RX3, Cond.code yX3_copyFrom cX3_copyFrom 2 none, Cond.fieldLink RX3 13 "EnergyDiscs$Load" "behind" "I", Cond.fieldLink RX3 17 "EnergyDiscs$Load" "power" "I", Cond.fieldLink RX3 20 "EnergyDiscs$Load" "on" "Z", Cond.methodLink RX6 69 yX2_inspect]
def wsX6_visit_r3 : List Cond := [Cond.instanceMethod yX2_inspect, Cond.selects RX2 yX2_inspect yX2_inspect, Cond.code yX2_inspect cX2_inspect 4 (some .int), Cond.fieldLink RX2 75 "EnergyDiscs$Meter" "broken" "Z", Cond.methodLink RX2 58 yX2_meterAt, Cond.instanceMethod yX2_meterAt, Cond.selects RX2 yX2_meterAt yX2_meterAt, Cond.code yX2_meterAt cX2_meterAt 2 (some (.object "EnergyDiscs$Meter")), Cond.methodLink RX2 81 yX2_owedAt, Cond.instanceMethod yX2_owedAt, Cond.selects RX2 yX2_owedAt yX2_owedAt, Cond.code yX2_owedAt cX2_owedAt 2 (some .int), Cond.methodLink RX2 124 yX4_unbilledDayTurns, Cond.instanceMethod yX4_unbilledDayTurns, Cond.selects RX4 yX4_unbilledDayTurns yX4_unbilledDayTurns, Cond.code yX4_unbilledDayTurns cX4_unbilledDayTurns 1 (some .int), Cond.methodLink RX2 128 yX4_unbilledNightTurns, Cond.instanceMethod yX4_unbilledNightTurns, Cond.selects RX4 yX4_unbilledNightTurns yX4_unbilledNightTurns, Cond.code yX4_unbilledNightTurns cX4_unbilledNightTurns 1 (some .int), Cond.methodLink RX2 85 yX4_settleBill, Cond.instanceMethod yX4_settleBill, Cond.selects RX4 yX4_settleBill yX4_settleBill, Cond.code yX4_settleBill cX4_settleBill 2 none]
def wsX6_visit_r4 : List Cond := [Cond.methodLink RX2 89 yX4_mend, Cond.instanceMethod yX4_mend, Cond.selects RX4 yX4_mend yX4_mend, Cond.code yX4_mend cX4_mend 2 none, Cond.methodLink RX6 53 yX1_settle, Cond.instanceMethod yX1_settle, Cond.selects RX1 yX1_settle yX1_settle, Cond.code yX1_settle cX1_settle 2 (some .int), Cond.fieldLink RX1 22 "EnergyDiscs$History" "kept" "I", Cond.methodLink RX1 29 Lib.Math.min.name, Cond.static Lib.Math.min.name, Cond.initialized "java/lang/Math", Cond.code Lib.Math.min.name Lib.Math.min.code 2 (some .int)]
def wsX6_visit : List Cond := .code yX6_visit cX6_visit 2 (some .int) :: ((wsX6_visit_r1 ++ (wsX6_visit_r2 ++ (wsX6_visit_r3 ++ wsX6_visit_r4))) ++ wsX60 ++ wsX10 ++ wsX20 ++ wsX40 ++ wsX30)
def wsX6_pass_r1 : List Cond := [Cond.fieldLink RX6 33 "EnergyDiscs" "history" "LEnergyDiscs$History;", Cond.fieldLink RX6 10 "EnergyDiscs" "house" "LEnergyDiscs$House;", Cond.methodLink RX6 45 yX1_prepare, Cond.instanceMethod yX1_prepare, Cond.selects RX1 yX1_prepare yX1_prepare, Cond.initialized RX1, Cond.code yX1_prepare cX1_prepare 2 none, Cond.fieldLink RX1 13 "EnergyDiscs$History" "states" "[LEnergyDiscs$House;", Cond.fieldLink RX1 18 "EnergyDiscs$History" "free" "I", Cond.methodLink RX1 25 yX2_copyFrom, Cond.instanceMethod yX2_copyFrom, Cond.selects RX2 yX2_copyFrom yX2_copyFrom, Cond.initialized RX2, Cond.code yX2_copyFrom cX2_copyFrom 3 none, Cond.fieldLink RX2 9 "EnergyDiscs$House" "settings" "[I", Cond.fieldLink RX2 32 "EnergyDiscs$House" "meterCount" "I", Cond.fieldLink RX2 17 "EnergyDiscs$House" "meters" "[LEnergyDiscs$Meter;", Cond.fieldLink RX2 40 "EnergyDiscs$House" "loadCount" "I", Cond.fieldLink RX2 23 "EnergyDiscs$House" "loads" "[LEnergyDiscs$Load;", Cond.fieldLink RX2 46 "EnergyDiscs$House" "time" "I", Cond.fieldLink RX2 49 "EnergyDiscs$House" "greatestSeal" "I", Cond.methodLink RX2 36 yX4_copyFrom, Cond.instanceMethod yX4_copyFrom, Cond.selects RX4 yX4_copyFrom yX4_copyFrom]
def wsX6_pass_r2 : List Cond := [Cond.initialized RX4, Cond.code yX4_copyFrom cX4_copyFrom 2 none, Cond.fieldLink RX4 15 "EnergyDiscs$Meter" "through" "I", Cond.fieldLink RX4 19 "EnergyDiscs$Meter" "place" "I", Cond.fieldLink RX4 22 "EnergyDiscs$Meter" "speed" "I", Cond.fieldLink RX4 25 "EnergyDiscs$Meter" "age" "I", Cond.fieldLink RX4 28 "EnergyDiscs$Meter" "dayTurns" "I", Cond.fieldLink RX4 31 "EnergyDiscs$Meter" "nightTurns" "I", Cond.fieldLink RX4 34 "EnergyDiscs$Meter" "billedDayTurns" "I", Cond.fieldLink RX4 37 "EnergyDiscs$Meter" "billedNightTurns" "I", Cond.fieldLink RX4 40 "EnergyDiscs$Meter" "flowed" "J", Cond.fieldLink RX4 44 "EnergyDiscs$Meter" "seal" "I", Cond.fieldLink RX4 47 "EnergyDiscs$Meter" "broken" "Z", Cond.fieldLink RX4 51 "EnergyDiscs$Meter" "billed" "I", Cond.fieldLink RX4 54 "EnergyDiscs$Meter" "visits" "I", Cond.methodLink RX2 43 yX3_copyFrom, Cond.instanceMethod yX3_copyFrom, Cond.selects RX3 yX3_copyFrom yX3_copyFrom, Cond.initialized RX3, Cond.code yX3_copyFrom cX3_copyFrom 2 none, Cond.fieldLink RX3 13 "EnergyDiscs$Load" "behind" "I", Cond.fieldLink RX3 17 "EnergyDiscs$Load" "power" "I", Cond.fieldLink RX3 20 "EnergyDiscs$Load" "on" "Z", Cond.methodLink RX6 72 yX2_elapse]
def wsX6_pass_r3 : List Cond := [Cond.instanceMethod yX2_elapse, Cond.selects RX2 yX2_elapse yX2_elapse, Cond.code yX2_elapse cX2_elapse 4 (some .int), Cond.constant RX2 92 (99999), Cond.methodLink RX2 93 yX2_powerOf, Cond.instanceMethod yX2_powerOf, Cond.selects RX2 yX2_powerOf yX2_powerOf, Cond.code yX2_powerOf cX2_powerOf 5 (some .int), Cond.fieldLink RX2 71 "EnergyDiscs$Load" "on" "Z", Cond.fieldLink RX2 134 "EnergyDiscs$Load" "behind" "I", Cond.fieldLink RX2 141 "EnergyDiscs$Load" "power" "I", Cond.methodLink RX2 131 yX2_fedThrough, Cond.instanceMethod yX2_fedThrough, Cond.selects RX2 yX2_fedThrough yX2_fedThrough, Cond.code yX2_fedThrough cX2_fedThrough 4 (some .int), Cond.fieldLink RX2 144 "EnergyDiscs$Meter" "through" "I", Cond.methodLink RX2 137 yX2_contains, Cond.static yX2_contains, Cond.code yX2_contains cX2_contains 2 (some .boolean), Cond.methodLink RX2 97 yX2_runDisc, Cond.instanceMethod yX2_runDisc, Cond.selects RX2 yX2_runDisc yX2_runDisc, Cond.code yX2_runDisc cX2_runDisc 9 (some .int), Cond.methodLink RX2 107 Lib.Math.min.name]
def wsX6_pass_r4 : List Cond := [Cond.static Lib.Math.min.name, Cond.initialized "java/lang/Math", Cond.code Lib.Math.min.name Lib.Math.min.code 2 (some .int), Cond.methodLink RX2 113 Lib.Math.max.name, Cond.static Lib.Math.max.name, Cond.code Lib.Math.max.name Lib.Math.max.code 2 (some .int), Cond.static yX6_minutesToSwitch, Cond.initialized RX6, Cond.code yX6_minutesToSwitch cX6_minutesToSwitch 2 (some .int), Cond.methodLink RX2 104 yX4_minutesToAge, Cond.instanceMethod yX4_minutesToAge, Cond.selects RX4 yX4_minutesToAge yX4_minutesToAge, Cond.code yX4_minutesToAge cX4_minutesToAge 2 (some .int), Cond.methodLink RX4 67 Lib.Math.max.name, Cond.static yX6_isNight, Cond.code yX6_isNight cX6_isNight 2 (some .boolean), Cond.methodLink RX2 120 yX4_run, Cond.instanceMethod yX4_run, Cond.selects RX4 yX4_run yX4_run, Cond.code yX4_run cX4_run 6 (some .int), Cond.methodLink RX4 77 Lib.Math.min.name, Cond.methodLink RX4 73 yX4_wayIn, Cond.instanceMethod yX4_wayIn, Cond.selects RX4 yX4_wayIn yX4_wayIn]
def wsX6_pass_r5 : List Cond := [Cond.code yX4_wayIn cX4_wayIn 5 (some .int), Cond.methodLink RX6 53 yX1_settle, Cond.instanceMethod yX1_settle, Cond.selects RX1 yX1_settle yX1_settle, Cond.code yX1_settle cX1_settle 2 (some .int), Cond.fieldLink RX1 22 "EnergyDiscs$History" "kept" "I", Cond.methodLink RX1 29 Lib.Math.min.name]
def wsX6_pass : List Cond := .code yX6_pass cX6_pass 2 (some .int) :: ((wsX6_pass_r1 ++ (wsX6_pass_r2 ++ (wsX6_pass_r3 ++ (wsX6_pass_r4 ++ wsX6_pass_r5)))) ++ wsX60 ++ wsX10 ++ wsX20 ++ wsX40 ++ wsX30)
def wsX6_write_r1 : List Cond := [Cond.fieldLink RX6 10 "EnergyDiscs" "house" "LEnergyDiscs$House;", Cond.fieldLink RX6 26 "EnergyDiscs" "pad" "LEnergyDiscs$Pad;", Cond.fieldLink RX6 86 "EnergyDiscs$Meter" "dayTurns" "I", Cond.fieldLink RX6 94 "EnergyDiscs$Meter" "nightTurns" "I", Cond.fieldLink RX6 97 "EnergyDiscs$Meter" "seal" "I", Cond.fieldLink RX6 100 "EnergyDiscs$Meter" "broken" "Z", Cond.fieldLink RX6 104 "EnergyDiscs$Pad" "length" "I", Cond.methodLink RX6 75 yX2_meterAt, Cond.instanceMethod yX2_meterAt, Cond.selects RX2 yX2_meterAt yX2_meterAt, Cond.initialized RX2, Cond.code yX2_meterAt cX2_meterAt 2 (some (.object "EnergyDiscs$Meter")), Cond.fieldLink RX2 32 "EnergyDiscs$House" "meterCount" "I", Cond.fieldLink RX2 17 "EnergyDiscs$House" "meters" "[LEnergyDiscs$Meter;", Cond.methodLink RX6 79 yX5_clear, Cond.instanceMethod yX5_clear, Cond.selects RX5 yX5_clear yX5_clear, Cond.initialized RX5, Cond.code yX5_clear cX5_clear 1 none, Cond.fieldLink RX5 15 "EnergyDiscs$Pad" "length" "I", Cond.methodLink RX6 82 yX5_append, Cond.instanceMethod yX5_append, Cond.selects RX5 yX5_append yX5_append, Cond.code yX5_append cX5_append 2 none]
def wsX6_write_r2 : List Cond := [Cond.fieldLink RX5 9 "EnergyDiscs$Pad" "signs" "[C", Cond.methodLink RX6 90 yX5_appendNumber, Cond.instanceMethod yX5_appendNumber, Cond.selects RX5 yX5_appendNumber yX5_appendNumber, Cond.code yX5_appendNumber cX5_appendNumber 5 none]
def wsX6_write : List Cond := .code yX6_write cX6_write 3 (some .int) :: ((wsX6_write_r1 ++ wsX6_write_r2) ++ wsX60 ++ wsX40 ++ wsX50 ++ wsX20)
def wsX6_sign : List Cond := .code yX6_sign cX6_sign 2 (some .int) :: ([.fieldLink RX6 26 "EnergyDiscs" "pad" "LEnergyDiscs$Pad;", .methodLink RX6 107 yX5_signAt, .instanceMethod yX5_signAt, .selects RX5 yX5_signAt yX5_signAt, .initialized RX5, .code yX5_signAt cX5_signAt 2 (some .int), .fieldLink RX5 15 "EnergyDiscs$Pad" "length" "I", .fieldLink RX5 9 "EnergyDiscs$Pad" "signs" "[C"] ++ wsX60 ++ wsX50)
def wsX6_of_r1 : List Cond := [Cond.fieldLink RX6 10 "EnergyDiscs" "house" "LEnergyDiscs$House;", Cond.fieldLink RX6 110 "EnergyDiscs$Meter" "through" "I", Cond.fieldLink RX6 116 "EnergyDiscs$Meter" "place" "I", Cond.fieldLink RX6 119 "EnergyDiscs$Meter" "speed" "I", Cond.fieldLink RX6 86 "EnergyDiscs$Meter" "dayTurns" "I", Cond.fieldLink RX6 94 "EnergyDiscs$Meter" "nightTurns" "I", Cond.fieldLink RX6 122 "EnergyDiscs$Meter" "flowed" "J", Cond.constantLong RX6 126 (6000), Cond.fieldLink RX6 97 "EnergyDiscs$Meter" "seal" "I", Cond.fieldLink RX6 100 "EnergyDiscs$Meter" "broken" "Z", Cond.fieldLink RX6 128 "EnergyDiscs$Meter" "billed" "I", Cond.fieldLink RX6 131 "EnergyDiscs$House" "settings" "[I", Cond.fieldLink RX6 138 "EnergyDiscs$Meter" "visits" "I", Cond.methodLink RX6 75 yX2_meterAt, Cond.instanceMethod yX2_meterAt, Cond.selects RX2 yX2_meterAt yX2_meterAt, Cond.initialized RX2, Cond.code yX2_meterAt cX2_meterAt 2 (some (.object "EnergyDiscs$Meter")), Cond.fieldLink RX2 32 "EnergyDiscs$House" "meterCount" "I", Cond.fieldLink RX2 17 "EnergyDiscs$House" "meters" "[LEnergyDiscs$Meter;", Cond.methodLink RX6 113 yX2_powerOf, Cond.instanceMethod yX2_powerOf, Cond.selects RX2 yX2_powerOf yX2_powerOf, Cond.code yX2_powerOf cX2_powerOf 5 (some .int)]
def wsX6_of_r2 : List Cond := [Cond.fieldLink RX2 40 "EnergyDiscs$House" "loadCount" "I", Cond.fieldLink RX2 23 "EnergyDiscs$House" "loads" "[LEnergyDiscs$Load;", Cond.fieldLink RX2 71 "EnergyDiscs$Load" "on" "Z", Cond.fieldLink RX2 134 "EnergyDiscs$Load" "behind" "I", Cond.fieldLink RX2 141 "EnergyDiscs$Load" "power" "I", Cond.methodLink RX2 131 yX2_fedThrough, Cond.instanceMethod yX2_fedThrough, Cond.selects RX2 yX2_fedThrough yX2_fedThrough, Cond.code yX2_fedThrough cX2_fedThrough 4 (some .int), Cond.fieldLink RX2 144 "EnergyDiscs$Meter" "through" "I", Cond.methodLink RX2 137 yX2_contains, Cond.static yX2_contains, Cond.code yX2_contains cX2_contains 2 (some .boolean), Cond.methodLink RX6 135 yX4_minutesToWeaken, Cond.instanceMethod yX4_minutesToWeaken, Cond.selects RX4 yX4_minutesToWeaken yX4_minutesToWeaken, Cond.initialized RX4, Cond.code yX4_minutesToWeaken cX4_minutesToWeaken 2 (some .int), Cond.fieldLink RX4 22 "EnergyDiscs$Meter" "speed" "I", Cond.methodLink RX4 63 yX4_minutesToAge, Cond.instanceMethod yX4_minutesToAge, Cond.selects RX4 yX4_minutesToAge yX4_minutesToAge, Cond.code yX4_minutesToAge cX4_minutesToAge 2 (some .int), Cond.fieldLink RX4 25 "EnergyDiscs$Meter" "age" "I"]
def wsX6_of_r3 : List Cond := [Cond.methodLink RX4 67 Lib.Math.max.name, Cond.static Lib.Math.max.name, Cond.initialized "java/lang/Math", Cond.code Lib.Math.max.name Lib.Math.max.code 2 (some .int)]
def wsX6_of : List Cond := .code yX6_of cX6_of 4 (some .int) :: ((wsX6_of_r1 ++ (wsX6_of_r2 ++ wsX6_of_r3)) ++ wsX60 ++ wsX40 ++ wsX20 ++ wsX30)
def wsX6_ofLoad : List Cond := .code yX6_ofLoad cX6_ofLoad 4 (some .int) :: ([.fieldLink RX6 10 "EnergyDiscs" "house" "LEnergyDiscs$House;", .fieldLink RX6 145 "EnergyDiscs$Load" "behind" "I", .fieldLink RX6 150 "EnergyDiscs$Load" "power" "I", .fieldLink RX6 153 "EnergyDiscs$Load" "on" "Z", .methodLink RX6 141 yX2_loadAt, .instanceMethod yX2_loadAt, .selects RX2 yX2_loadAt yX2_loadAt, .initialized RX2, .code yX2_loadAt cX2_loadAt 2 (some (.object "EnergyDiscs$Load")), .fieldLink RX2 40 "EnergyDiscs$House" "loadCount" "I", .fieldLink RX2 23 "EnergyDiscs$House" "loads" "[LEnergyDiscs$Load;"] ++ wsX60 ++ wsX30 ++ wsX20)
def wsX6_misses : List Cond := .code yX6_misses cX6_misses 3 (some .long) :: ([.fieldLink RX6 10 "EnergyDiscs" "house" "LEnergyDiscs$House;", .constantLong RX6 156 (-1), .constantLong RX6 162 (10000000000), .methodLink RX6 75 yX2_meterAt, .instanceMethod yX2_meterAt, .selects RX2 yX2_meterAt yX2_meterAt, .initialized RX2, .code yX2_meterAt cX2_meterAt 2 (some (.object "EnergyDiscs$Meter")), .fieldLink RX2 32 "EnergyDiscs$House" "meterCount" "I", .fieldLink RX2 17 "EnergyDiscs$House" "meters" "[LEnergyDiscs$Meter;", .methodLink RX6 158 yX4_missed, .instanceMethod yX4_missed, .selects RX4 yX4_missed yX4_missed, .initialized RX4, .code yX4_missed cX4_missed 1 (some .long), .fieldLink RX4 40 "EnergyDiscs$Meter" "flowed" "J", .constantLong RX4 57 (6000), .fieldLink RX4 19 "EnergyDiscs$Meter" "place" "I", .methodLink RX4 59 yX4_turns, .instanceMethod yX4_turns, .selects RX4 yX4_turns yX4_turns, .code yX4_turns cX4_turns 1 (some .int), .fieldLink RX4 28 "EnergyDiscs$Meter" "dayTurns" "I", .fieldLink RX4 31 "EnergyDiscs$Meter" "nightTurns" "I"] ++ wsX60 ++ wsX20 ++ wsX40)
def wsX6_fed : List Cond := .code yX6_fed cX6_fed 2 (some .int) :: ([.fieldLink RX6 10 "EnergyDiscs" "house" "LEnergyDiscs$House;", .methodLink RX6 75 yX2_meterAt, .instanceMethod yX2_meterAt, .selects RX2 yX2_meterAt yX2_meterAt, .initialized RX2, .code yX2_meterAt cX2_meterAt 2 (some (.object "EnergyDiscs$Meter")), .fieldLink RX2 32 "EnergyDiscs$House" "meterCount" "I", .fieldLink RX2 17 "EnergyDiscs$House" "meters" "[LEnergyDiscs$Meter;", .methodLink RX6 164 yX2_fedThrough, .instanceMethod yX2_fedThrough, .selects RX2 yX2_fedThrough yX2_fedThrough, .code yX2_fedThrough cX2_fedThrough 4 (some .int), .fieldLink RX2 144 "EnergyDiscs$Meter" "through" "I", .methodLink RX2 137 yX2_contains, .static yX2_contains, .code yX2_contains cX2_contains 2 (some .boolean)] ++ wsX60 ++ wsX20 ++ wsX40)
def wsX6_count_r1 : List Cond := [Cond.fieldLink RX6 10 "EnergyDiscs" "house" "LEnergyDiscs$House;", Cond.fieldLink RX6 167 "EnergyDiscs$House" "time" "I", Cond.fieldLink RX6 174 "EnergyDiscs$House" "meterCount" "I", Cond.fieldLink RX6 177 "EnergyDiscs$House" "loadCount" "I", Cond.fieldLink RX6 193 "EnergyDiscs$House" "greatestSeal" "I", Cond.fieldLink RX6 131 "EnergyDiscs$House" "settings" "[I", Cond.fieldLink RX6 26 "EnergyDiscs" "pad" "LEnergyDiscs$Pad;", Cond.fieldLink RX6 104 "EnergyDiscs$Pad" "length" "I", Cond.fieldLink RX6 33 "EnergyDiscs" "history" "LEnergyDiscs$History;", Cond.fieldLink RX6 196 "EnergyDiscs$History" "kept" "I", Cond.methodLink RX6 170 yX6_isNight, Cond.static yX6_isNight, Cond.initialized RX6, Cond.code yX6_isNight cX6_isNight 2 (some .boolean), Cond.methodLink RX6 180 yX2_loadsOn, Cond.instanceMethod yX2_loadsOn, Cond.selects RX2 yX2_loadsOn yX2_loadsOn, Cond.initialized RX2, Cond.code yX2_loadsOn cX2_loadsOn 3 (some .int), Cond.fieldLink RX2 40 "EnergyDiscs$House" "loadCount" "I", Cond.fieldLink RX2 23 "EnergyDiscs$House" "loads" "[LEnergyDiscs$Load;", Cond.fieldLink RX2 71 "EnergyDiscs$Load" "on" "Z", Cond.methodLink RX6 184 yX2_sealsBroken, Cond.instanceMethod yX2_sealsBroken]
def wsX6_count_r2 : List Cond := [Cond.selects RX2 yX2_sealsBroken yX2_sealsBroken, Cond.code yX2_sealsBroken cX2_sealsBroken 3 (some .int), Cond.fieldLink RX2 32 "EnergyDiscs$House" "meterCount" "I", Cond.fieldLink RX2 17 "EnergyDiscs$House" "meters" "[LEnergyDiscs$Meter;", Cond.fieldLink RX2 75 "EnergyDiscs$Meter" "broken" "Z", Cond.methodLink RX6 187 yX2_allTurns, Cond.instanceMethod yX2_allTurns, Cond.selects RX2 yX2_allTurns yX2_allTurns, Cond.code yX2_allTurns cX2_allTurns 3 (some .int), Cond.methodLink RX2 147 yX4_turns, Cond.instanceMethod yX4_turns, Cond.selects RX4 yX4_turns yX4_turns, Cond.initialized RX4, Cond.code yX4_turns cX4_turns 1 (some .int), Cond.fieldLink RX4 28 "EnergyDiscs$Meter" "dayTurns" "I", Cond.fieldLink RX4 31 "EnergyDiscs$Meter" "nightTurns" "I", Cond.methodLink RX6 190 yX2_allBilled, Cond.instanceMethod yX2_allBilled, Cond.selects RX2 yX2_allBilled yX2_allBilled, Cond.code yX2_allBilled cX2_allBilled 3 (some .int), Cond.fieldLink RX2 150 "EnergyDiscs$Meter" "billed" "I"]
def wsX6_count : List Cond := .code yX6_count cX6_count 2 (some .int) :: ((wsX6_count_r1 ++ wsX6_count_r2) ++ wsX60 ++ wsX20 ++ wsX50 ++ wsX10 ++ wsX30 ++ wsX40)
def wsX6_bill_r1 : List Cond := [Cond.fieldLink RX6 10 "EnergyDiscs" "house" "LEnergyDiscs$House;", Cond.methodLink RX6 75 yX2_meterAt, Cond.instanceMethod yX2_meterAt, Cond.selects RX2 yX2_meterAt yX2_meterAt, Cond.initialized RX2, Cond.code yX2_meterAt cX2_meterAt 2 (some (.object "EnergyDiscs$Meter")), Cond.fieldLink RX2 32 "EnergyDiscs$House" "meterCount" "I", Cond.fieldLink RX2 17 "EnergyDiscs$House" "meters" "[LEnergyDiscs$Meter;", Cond.methodLink RX6 199 yX2_owedAt, Cond.instanceMethod yX2_owedAt, Cond.selects RX2 yX2_owedAt yX2_owedAt, Cond.code yX2_owedAt cX2_owedAt 2 (some .int), Cond.fieldLink RX2 9 "EnergyDiscs$House" "settings" "[I", Cond.methodLink RX2 124 yX4_unbilledDayTurns, Cond.instanceMethod yX4_unbilledDayTurns, Cond.selects RX4 yX4_unbilledDayTurns yX4_unbilledDayTurns, Cond.initialized RX4, Cond.code yX4_unbilledDayTurns cX4_unbilledDayTurns 1 (some .int), Cond.fieldLink RX4 28 "EnergyDiscs$Meter" "dayTurns" "I", Cond.fieldLink RX4 34 "EnergyDiscs$Meter" "billedDayTurns" "I", Cond.methodLink RX2 128 yX4_unbilledNightTurns, Cond.instanceMethod yX4_unbilledNightTurns, Cond.selects RX4 yX4_unbilledNightTurns yX4_unbilledNightTurns, Cond.code yX4_unbilledNightTurns cX4_unbilledNightTurns 1 (some .int)]
def wsX6_bill_r2 : List Cond := [Cond.fieldLink RX4 31 "EnergyDiscs$Meter" "nightTurns" "I", Cond.fieldLink RX4 37 "EnergyDiscs$Meter" "billedNightTurns" "I"]
def wsX6_bill : List Cond := .code yX6_bill cX6_bill 3 (some .int) :: ((wsX6_bill_r1 ++ wsX6_bill_r2) ++ wsX60 ++ wsX20 ++ wsX40)
def wsX6_turnsIn_r1 : List Cond := [Cond.fieldLink RX6 10 "EnergyDiscs" "house" "LEnergyDiscs$House;", Cond.fieldLink RX6 19 "EnergyDiscs" "probe" "LEnergyDiscs$Meter;", Cond.methodLink RX6 75 yX2_meterAt, Cond.instanceMethod yX2_meterAt, Cond.selects RX2 yX2_meterAt yX2_meterAt, Cond.initialized RX2, Cond.code yX2_meterAt cX2_meterAt 2 (some (.object "EnergyDiscs$Meter")), Cond.fieldLink RX2 32 "EnergyDiscs$House" "meterCount" "I", Cond.fieldLink RX2 17 "EnergyDiscs$House" "meters" "[LEnergyDiscs$Meter;", Cond.methodLink RX6 203 yX4_copyFrom, Cond.instanceMethod yX4_copyFrom, Cond.selects RX4 yX4_copyFrom yX4_copyFrom, Cond.initialized RX4, Cond.code yX4_copyFrom cX4_copyFrom 2 none, Cond.fieldLink RX4 15 "EnergyDiscs$Meter" "through" "I", Cond.fieldLink RX4 19 "EnergyDiscs$Meter" "place" "I", Cond.fieldLink RX4 22 "EnergyDiscs$Meter" "speed" "I", Cond.fieldLink RX4 25 "EnergyDiscs$Meter" "age" "I", Cond.fieldLink RX4 28 "EnergyDiscs$Meter" "dayTurns" "I", Cond.fieldLink RX4 31 "EnergyDiscs$Meter" "nightTurns" "I", Cond.fieldLink RX4 34 "EnergyDiscs$Meter" "billedDayTurns" "I", Cond.fieldLink RX4 37 "EnergyDiscs$Meter" "billedNightTurns" "I", Cond.fieldLink RX4 40 "EnergyDiscs$Meter" "flowed" "J", Cond.fieldLink RX4 44 "EnergyDiscs$Meter" "seal" "I"]
def wsX6_turnsIn_r2 : List Cond := [Cond.fieldLink RX4 47 "EnergyDiscs$Meter" "broken" "Z", Cond.fieldLink RX4 51 "EnergyDiscs$Meter" "billed" "I", Cond.fieldLink RX4 54 "EnergyDiscs$Meter" "visits" "I", Cond.methodLink RX6 113 yX2_powerOf, Cond.instanceMethod yX2_powerOf, Cond.selects RX2 yX2_powerOf yX2_powerOf, Cond.code yX2_powerOf cX2_powerOf 5 (some .int), Cond.fieldLink RX2 40 "EnergyDiscs$House" "loadCount" "I", Cond.fieldLink RX2 23 "EnergyDiscs$House" "loads" "[LEnergyDiscs$Load;", Cond.fieldLink RX2 71 "EnergyDiscs$Load" "on" "Z", Cond.fieldLink RX2 134 "EnergyDiscs$Load" "behind" "I", Cond.fieldLink RX2 141 "EnergyDiscs$Load" "power" "I", Cond.methodLink RX2 131 yX2_fedThrough, Cond.instanceMethod yX2_fedThrough, Cond.selects RX2 yX2_fedThrough yX2_fedThrough, Cond.code yX2_fedThrough cX2_fedThrough 4 (some .int), Cond.fieldLink RX2 144 "EnergyDiscs$Meter" "through" "I", Cond.methodLink RX2 137 yX2_contains, Cond.static yX2_contains, Cond.code yX2_contains cX2_contains 2 (some .boolean), Cond.methodLink RX6 207 yX2_minutesToTurn, Cond.instanceMethod yX2_minutesToTurn, Cond.selects RX2 yX2_minutesToTurn yX2_minutesToTurn, Cond.code yX2_minutesToTurn cX2_minutesToTurn 4 (some .int)]
def wsX6_turnsIn_r3 : List Cond := [Cond.fieldLink RX2 9 "EnergyDiscs$House" "settings" "[I", Cond.fieldLink RX2 46 "EnergyDiscs$House" "time" "I", Cond.static yX6_isNight, Cond.initialized RX6, Cond.code yX6_isNight cX6_isNight 2 (some .boolean), Cond.methodLink RX2 120 yX4_run, Cond.instanceMethod yX4_run, Cond.selects RX4 yX4_run yX4_run, Cond.code yX4_run cX4_run 6 (some .int), Cond.methodLink RX4 77 Lib.Math.min.name, Cond.static Lib.Math.min.name, Cond.initialized "java/lang/Math", Cond.code Lib.Math.min.name Lib.Math.min.code 2 (some .int), Cond.methodLink RX4 73 yX4_wayIn, Cond.instanceMethod yX4_wayIn, Cond.selects RX4 yX4_wayIn yX4_wayIn, Cond.code yX4_wayIn cX4_wayIn 5 (some .int)]
def wsX6_turnsIn : List Cond := .code yX6_turnsIn cX6_turnsIn 3 (some .int) :: ((wsX6_turnsIn_r1 ++ (wsX6_turnsIn_r2 ++ wsX6_turnsIn_r3)) ++ wsX60 ++ wsX20 ++ wsX40 ++ wsX30)
def wsX6_wouldTurn_r1 : List Cond := [Cond.fieldLink RX6 10 "EnergyDiscs" "house" "LEnergyDiscs$House;", Cond.fieldLink RX6 19 "EnergyDiscs" "probe" "LEnergyDiscs$Meter;", Cond.fieldLink RX6 94 "EnergyDiscs$Meter" "nightTurns" "I", Cond.fieldLink RX6 86 "EnergyDiscs$Meter" "dayTurns" "I", Cond.methodLink RX6 75 yX2_meterAt, Cond.instanceMethod yX2_meterAt, Cond.selects RX2 yX2_meterAt yX2_meterAt, Cond.initialized RX2, Cond.code yX2_meterAt cX2_meterAt 2 (some (.object "EnergyDiscs$Meter")), Cond.fieldLink RX2 32 "EnergyDiscs$House" "meterCount" "I", Cond.fieldLink RX2 17 "EnergyDiscs$House" "meters" "[LEnergyDiscs$Meter;", Cond.methodLink RX6 203 yX4_copyFrom, Cond.instanceMethod yX4_copyFrom, Cond.selects RX4 yX4_copyFrom yX4_copyFrom, Cond.initialized RX4, Cond.code yX4_copyFrom cX4_copyFrom 2 none, Cond.fieldLink RX4 15 "EnergyDiscs$Meter" "through" "I", Cond.fieldLink RX4 19 "EnergyDiscs$Meter" "place" "I", Cond.fieldLink RX4 22 "EnergyDiscs$Meter" "speed" "I", Cond.fieldLink RX4 25 "EnergyDiscs$Meter" "age" "I", Cond.fieldLink RX4 28 "EnergyDiscs$Meter" "dayTurns" "I", Cond.fieldLink RX4 31 "EnergyDiscs$Meter" "nightTurns" "I", Cond.fieldLink RX4 34 "EnergyDiscs$Meter" "billedDayTurns" "I", Cond.fieldLink RX4 37 "EnergyDiscs$Meter" "billedNightTurns" "I"]
def wsX6_wouldTurn_r2 : List Cond := [Cond.fieldLink RX4 40 "EnergyDiscs$Meter" "flowed" "J", Cond.fieldLink RX4 44 "EnergyDiscs$Meter" "seal" "I", Cond.fieldLink RX4 47 "EnergyDiscs$Meter" "broken" "Z", Cond.fieldLink RX4 51 "EnergyDiscs$Meter" "billed" "I", Cond.fieldLink RX4 54 "EnergyDiscs$Meter" "visits" "I", Cond.methodLink RX6 113 yX2_powerOf, Cond.instanceMethod yX2_powerOf, Cond.selects RX2 yX2_powerOf yX2_powerOf, Cond.code yX2_powerOf cX2_powerOf 5 (some .int), Cond.fieldLink RX2 40 "EnergyDiscs$House" "loadCount" "I", Cond.fieldLink RX2 23 "EnergyDiscs$House" "loads" "[LEnergyDiscs$Load;", Cond.fieldLink RX2 71 "EnergyDiscs$Load" "on" "Z", Cond.fieldLink RX2 134 "EnergyDiscs$Load" "behind" "I", Cond.fieldLink RX2 141 "EnergyDiscs$Load" "power" "I", Cond.methodLink RX2 131 yX2_fedThrough, Cond.instanceMethod yX2_fedThrough, Cond.selects RX2 yX2_fedThrough yX2_fedThrough, Cond.code yX2_fedThrough cX2_fedThrough 4 (some .int), Cond.fieldLink RX2 144 "EnergyDiscs$Meter" "through" "I", Cond.methodLink RX2 137 yX2_contains, Cond.static yX2_contains, Cond.code yX2_contains cX2_contains 2 (some .boolean), Cond.methodLink RX6 211 yX2_runDisc, Cond.instanceMethod yX2_runDisc]
def wsX6_wouldTurn_r3 : List Cond := [Cond.selects RX2 yX2_runDisc yX2_runDisc, Cond.code yX2_runDisc cX2_runDisc 9 (some .int), Cond.fieldLink RX2 46 "EnergyDiscs$House" "time" "I", Cond.fieldLink RX2 9 "EnergyDiscs$House" "settings" "[I", Cond.methodLink RX2 107 Lib.Math.min.name, Cond.static Lib.Math.min.name, Cond.initialized "java/lang/Math", Cond.code Lib.Math.min.name Lib.Math.min.code 2 (some .int), Cond.methodLink RX2 113 Lib.Math.max.name, Cond.static Lib.Math.max.name, Cond.code Lib.Math.max.name Lib.Math.max.code 2 (some .int), Cond.static yX6_minutesToSwitch, Cond.initialized RX6, Cond.code yX6_minutesToSwitch cX6_minutesToSwitch 2 (some .int), Cond.methodLink RX2 104 yX4_minutesToAge, Cond.instanceMethod yX4_minutesToAge, Cond.selects RX4 yX4_minutesToAge yX4_minutesToAge, Cond.code yX4_minutesToAge cX4_minutesToAge 2 (some .int), Cond.methodLink RX4 67 Lib.Math.max.name, Cond.static yX6_isNight, Cond.code yX6_isNight cX6_isNight 2 (some .boolean), Cond.methodLink RX2 120 yX4_run, Cond.instanceMethod yX4_run, Cond.selects RX4 yX4_run yX4_run]
def wsX6_wouldTurn_r4 : List Cond := [Cond.code yX4_run cX4_run 6 (some .int), Cond.methodLink RX4 77 Lib.Math.min.name, Cond.methodLink RX4 73 yX4_wayIn, Cond.instanceMethod yX4_wayIn, Cond.selects RX4 yX4_wayIn yX4_wayIn, Cond.code yX4_wayIn cX4_wayIn 5 (some .int)]
def wsX6_wouldTurn : List Cond := .code yX6_wouldTurn cX6_wouldTurn 5 (some .int) :: ((wsX6_wouldTurn_r1 ++ (wsX6_wouldTurn_r2 ++ (wsX6_wouldTurn_r3 ++ wsX6_wouldTurn_r4))) ++ wsX60 ++ wsX40 ++ wsX20 ++ wsX30)
def wsX6_worst : List Cond := .code yX6_worst cX6_worst 1 (some .int) :: ([.fieldLink RX6 10 "EnergyDiscs" "house" "LEnergyDiscs$House;", .methodLink RX6 215 yX2_mostMissing, .instanceMethod yX2_mostMissing, .selects RX2 yX2_mostMissing yX2_mostMissing, .initialized RX2, .code yX2_mostMissing cX2_mostMissing 3 (some .int), .fieldLink RX2 32 "EnergyDiscs$House" "meterCount" "I", .fieldLink RX2 17 "EnergyDiscs$House" "meters" "[LEnergyDiscs$Meter;", .methodLink RX2 153 yX4_missed, .instanceMethod yX4_missed, .selects RX4 yX4_missed yX4_missed, .initialized RX4, .code yX4_missed cX4_missed 1 (some .long), .fieldLink RX4 40 "EnergyDiscs$Meter" "flowed" "J", .constantLong RX4 57 (6000), .fieldLink RX4 19 "EnergyDiscs$Meter" "place" "I", .methodLink RX4 59 yX4_turns, .instanceMethod yX4_turns, .selects RX4 yX4_turns yX4_turns, .code yX4_turns cX4_turns 1 (some .int), .fieldLink RX4 28 "EnergyDiscs$Meter" "dayTurns" "I", .fieldLink RX4 31 "EnergyDiscs$Meter" "nightTurns" "I"] ++ wsX60 ++ wsX20 ++ wsX40)
def wsX6_lags : List Cond := .code yX6_lags cX6_lags 2 (some .int) :: ([.fieldLink RX6 10 "EnergyDiscs" "house" "LEnergyDiscs$House;", .constant RX6 221 (10000000), .methodLink RX6 75 yX2_meterAt, .instanceMethod yX2_meterAt, .selects RX2 yX2_meterAt yX2_meterAt, .initialized RX2, .code yX2_meterAt cX2_meterAt 2 (some (.object "EnergyDiscs$Meter")), .fieldLink RX2 32 "EnergyDiscs$House" "meterCount" "I", .fieldLink RX2 17 "EnergyDiscs$House" "meters" "[LEnergyDiscs$Meter;", .methodLink RX6 218 yX2_turnsBehind, .instanceMethod yX2_turnsBehind, .selects RX2 yX2_turnsBehind yX2_turnsBehind, .code yX2_turnsBehind cX2_turnsBehind 4 (some .int), .fieldLink RX2 144 "EnergyDiscs$Meter" "through" "I", .methodLink RX2 147 yX4_turns, .instanceMethod yX4_turns, .selects RX4 yX4_turns yX4_turns, .initialized RX4, .code yX4_turns cX4_turns 1 (some .int), .fieldLink RX4 28 "EnergyDiscs$Meter" "dayTurns" "I", .fieldLink RX4 31 "EnergyDiscs$Meter" "nightTurns" "I"] ++ wsX60 ++ wsX20 ++ wsX40)
def wsX6_put : List Cond := .code yX6_put cX6_put 5 (some .int) :: ([.fieldLink RX6 26 "EnergyDiscs" "pad" "LEnergyDiscs$Pad;", .fieldLink RX6 104 "EnergyDiscs$Pad" "length" "I", .methodLink RX6 222 yX5_signsIn, .static yX5_signsIn, .initialized RX5, .code yX5_signsIn cX5_signsIn 4 (some .int), .methodLink RX5 23 yX5_signOf, .static yX5_signOf, .code yX5_signOf cX5_signOf 3 (some .char), .constantLong RX5 27 (255), .methodLink RX6 226 yX5_signOf, .methodLink RX6 82 yX5_append, .instanceMethod yX5_append, .selects RX5 yX5_append yX5_append, .code yX5_append cX5_append 2 none, .fieldLink RX5 15 "EnergyDiscs$Pad" "length" "I", .fieldLink RX5 9 "EnergyDiscs$Pad" "signs" "[C"] ++ wsX60 ++ wsX50)
def wsX6_wipe : List Cond := .code yX6_wipe cX6_wipe 2 (some .int) :: ([.fieldLink RX6 26 "EnergyDiscs" "pad" "LEnergyDiscs$Pad;", .fieldLink RX6 104 "EnergyDiscs$Pad" "length" "I", .methodLink RX6 79 yX5_clear, .instanceMethod yX5_clear, .selects RX5 yX5_clear yX5_clear, .initialized RX5, .code yX5_clear cX5_clear 1 none, .fieldLink RX5 15 "EnergyDiscs$Pad" "length" "I"] ++ wsX60 ++ wsX50)
def wsX6_fault_r1 : List Cond := [Cond.fieldLink RX6 26 "EnergyDiscs" "pad" "LEnergyDiscs$Pad;", Cond.methodLink RX6 230 yX0_faultOf, Cond.static yX0_faultOf, Cond.initialized RX0, Cond.code yX0_faultOf cX0_faultOf 3 (some .int), Cond.fieldLink RX0 11 "EnergyDiscs$Pad" "length" "I", Cond.methodLink RX0 17 yX5_signAt, Cond.instanceMethod yX5_signAt, Cond.selects RX5 yX5_signAt yX5_signAt, Cond.initialized RX5, Cond.code yX5_signAt cX5_signAt 2 (some .int), Cond.fieldLink RX5 15 "EnergyDiscs$Pad" "length" "I", Cond.fieldLink RX5 9 "EnergyDiscs$Pad" "signs" "[C", Cond.methodLink RX0 21 yX0_stateAfter, Cond.static yX0_stateAfter, Cond.code yX0_stateAfter cX0_stateAfter 2 (some .int), Cond.methodLink RX0 25 yX0_mayEnd, Cond.static yX0_mayEnd, Cond.code yX0_mayEnd cX0_mayEnd 1 (some .boolean), Cond.methodLink RX0 29 yX0_stateAfterName, Cond.static yX0_stateAfterName, Cond.code yX0_stateAfterName cX0_stateAfterName 1 (some .int), Cond.methodLink RX0 32 yX0_ifDigit, Cond.static yX0_ifDigit]
def wsX6_fault_r2 : List Cond := [Cond.code yX0_ifDigit cX0_ifDigit 2 (some .int)]
def wsX6_fault : List Cond := .code yX6_fault cX6_fault 1 (some .int) :: ((wsX6_fault_r1 ++ wsX6_fault_r2) ++ wsX60 ++ wsX50)
def wsX6_carryOneOut_r1 : List Cond := [Cond.fieldLink RX6 26 "EnergyDiscs" "pad" "LEnergyDiscs$Pad;", Cond.fieldLink RX6 10 "EnergyDiscs" "house" "LEnergyDiscs$House;", Cond.methodLink RX6 107 yX5_signAt, Cond.instanceMethod yX5_signAt, Cond.selects RX5 yX5_signAt yX5_signAt, Cond.initialized RX5, Cond.code yX5_signAt cX5_signAt 2 (some .int), Cond.fieldLink RX5 15 "EnergyDiscs$Pad" "length" "I", Cond.fieldLink RX5 9 "EnergyDiscs$Pad" "signs" "[C", Cond.methodLink RX6 239 yX5_numberIn, Cond.instanceMethod yX5_numberIn, Cond.selects RX5 yX5_numberIn yX5_numberIn, Cond.code yX5_numberIn cX5_numberIn 5 (some .int), Cond.methodLink RX5 19 yX5_signAt, Cond.methodLink RX6 57 yX2_addMeter, Cond.instanceMethod yX2_addMeter, Cond.selects RX2 yX2_addMeter yX2_addMeter, Cond.initialized RX2, Cond.code yX2_addMeter cX2_addMeter 2 (some .int), Cond.fieldLink RX2 32 "EnergyDiscs$House" "meterCount" "I", Cond.fieldLink RX2 49 "EnergyDiscs$House" "greatestSeal" "I", Cond.fieldLink RX2 17 "EnergyDiscs$House" "meters" "[LEnergyDiscs$Meter;", Cond.methodLink RX2 58 yX2_meterAt, Cond.instanceMethod yX2_meterAt]
def wsX6_carryOneOut_r2 : List Cond := [Cond.selects RX2 yX2_meterAt yX2_meterAt, Cond.code yX2_meterAt cX2_meterAt 2 (some (.object "EnergyDiscs$Meter")), Cond.methodLink RX2 62 yX4_begin, Cond.instanceMethod yX4_begin, Cond.selects RX4 yX4_begin yX4_begin, Cond.initialized RX4, Cond.code yX4_begin cX4_begin 3 none, Cond.fieldLink RX4 15 "EnergyDiscs$Meter" "through" "I", Cond.fieldLink RX4 19 "EnergyDiscs$Meter" "place" "I", Cond.fieldLink RX4 22 "EnergyDiscs$Meter" "speed" "I", Cond.fieldLink RX4 25 "EnergyDiscs$Meter" "age" "I", Cond.fieldLink RX4 28 "EnergyDiscs$Meter" "dayTurns" "I", Cond.fieldLink RX4 31 "EnergyDiscs$Meter" "nightTurns" "I", Cond.fieldLink RX4 34 "EnergyDiscs$Meter" "billedDayTurns" "I", Cond.fieldLink RX4 37 "EnergyDiscs$Meter" "billedNightTurns" "I", Cond.fieldLink RX4 40 "EnergyDiscs$Meter" "flowed" "J", Cond.fieldLink RX4 44 "EnergyDiscs$Meter" "seal" "I", Cond.fieldLink RX4 47 "EnergyDiscs$Meter" "broken" "Z", Cond.fieldLink RX4 51 "EnergyDiscs$Meter" "billed" "I", Cond.fieldLink RX4 54 "EnergyDiscs$Meter" "visits" "I", Cond.methodLink RX6 60 yX2_addLoad, Cond.instanceMethod yX2_addLoad, Cond.selects RX2 yX2_addLoad yX2_addLoad, Cond.code yX2_addLoad cX2_addLoad 3 (some .int)]
def wsX6_carryOneOut_r3 : List Cond := [Cond.fieldLink RX2 40 "EnergyDiscs$House" "loadCount" "I", Cond.fieldLink RX2 23 "EnergyDiscs$House" "loads" "[LEnergyDiscs$Load;", Cond.methodLink RX2 66 yX3_begin, Cond.instanceMethod yX3_begin, Cond.selects RX3 yX3_begin yX3_begin, Cond.initialized RX3, Cond.code yX3_begin cX3_begin 3 none, Cond.fieldLink RX3 13 "EnergyDiscs$Load" "behind" "I", Cond.fieldLink RX3 17 "EnergyDiscs$Load" "power" "I", Cond.fieldLink RX3 20 "EnergyDiscs$Load" "on" "Z", Cond.methodLink RX6 63 yX2_switchLoad, Cond.instanceMethod yX2_switchLoad, Cond.selects RX2 yX2_switchLoad yX2_switchLoad, Cond.code yX2_switchLoad cX2_switchLoad 3 (some .int), Cond.fieldLink RX2 71 "EnergyDiscs$Load" "on" "Z", Cond.methodLink RX2 67 yX2_loadAt, Cond.instanceMethod yX2_loadAt, Cond.selects RX2 yX2_loadAt yX2_loadAt, Cond.code yX2_loadAt cX2_loadAt 2 (some (.object "EnergyDiscs$Load")), Cond.methodLink RX6 72 yX2_elapse, Cond.instanceMethod yX2_elapse, Cond.selects RX2 yX2_elapse yX2_elapse, Cond.code yX2_elapse cX2_elapse 4 (some .int), Cond.fieldLink RX2 46 "EnergyDiscs$House" "time" "I"]
def wsX6_carryOneOut_r4 : List Cond := [Cond.constant RX2 92 (99999), Cond.methodLink RX2 93 yX2_powerOf, Cond.instanceMethod yX2_powerOf, Cond.selects RX2 yX2_powerOf yX2_powerOf, Cond.code yX2_powerOf cX2_powerOf 5 (some .int), Cond.fieldLink RX2 134 "EnergyDiscs$Load" "behind" "I", Cond.fieldLink RX2 141 "EnergyDiscs$Load" "power" "I", Cond.methodLink RX2 131 yX2_fedThrough, Cond.instanceMethod yX2_fedThrough, Cond.selects RX2 yX2_fedThrough yX2_fedThrough, Cond.code yX2_fedThrough cX2_fedThrough 4 (some .int), Cond.fieldLink RX2 144 "EnergyDiscs$Meter" "through" "I", Cond.methodLink RX2 137 yX2_contains, Cond.static yX2_contains, Cond.code yX2_contains cX2_contains 2 (some .boolean), Cond.methodLink RX2 97 yX2_runDisc, Cond.instanceMethod yX2_runDisc, Cond.selects RX2 yX2_runDisc yX2_runDisc, Cond.code yX2_runDisc cX2_runDisc 9 (some .int), Cond.fieldLink RX2 9 "EnergyDiscs$House" "settings" "[I", Cond.methodLink RX2 107 Lib.Math.min.name, Cond.static Lib.Math.min.name, Cond.initialized "java/lang/Math", Cond.code Lib.Math.min.name Lib.Math.min.code 2 (some .int)]
def wsX6_carryOneOut_r5 : List Cond := [Cond.methodLink RX2 113 Lib.Math.max.name, Cond.static Lib.Math.max.name, Cond.code Lib.Math.max.name Lib.Math.max.code 2 (some .int), Cond.static yX6_minutesToSwitch, Cond.initialized RX6, Cond.code yX6_minutesToSwitch cX6_minutesToSwitch 2 (some .int), Cond.methodLink RX2 104 yX4_minutesToAge, Cond.instanceMethod yX4_minutesToAge, Cond.selects RX4 yX4_minutesToAge yX4_minutesToAge, Cond.code yX4_minutesToAge cX4_minutesToAge 2 (some .int), Cond.methodLink RX4 67 Lib.Math.max.name, Cond.static yX6_isNight, Cond.code yX6_isNight cX6_isNight 2 (some .boolean), Cond.methodLink RX2 120 yX4_run, Cond.instanceMethod yX4_run, Cond.selects RX4 yX4_run yX4_run, Cond.code yX4_run cX4_run 6 (some .int), Cond.methodLink RX4 77 Lib.Math.min.name, Cond.methodLink RX4 73 yX4_wayIn, Cond.instanceMethod yX4_wayIn, Cond.selects RX4 yX4_wayIn yX4_wayIn, Cond.code yX4_wayIn cX4_wayIn 5 (some .int), Cond.methodLink RX6 66 yX2_breakSeal, Cond.instanceMethod yX2_breakSeal]
def wsX6_carryOneOut_r6 : List Cond := [Cond.selects RX2 yX2_breakSeal yX2_breakSeal, Cond.code yX2_breakSeal cX2_breakSeal 3 (some .int), Cond.fieldLink RX2 75 "EnergyDiscs$Meter" "broken" "Z", Cond.fieldLink RX2 78 "EnergyDiscs$Meter" "seal" "I", Cond.methodLink RX6 69 yX2_inspect, Cond.instanceMethod yX2_inspect, Cond.selects RX2 yX2_inspect yX2_inspect, Cond.code yX2_inspect cX2_inspect 4 (some .int), Cond.methodLink RX2 81 yX2_owedAt, Cond.instanceMethod yX2_owedAt, Cond.selects RX2 yX2_owedAt yX2_owedAt, Cond.code yX2_owedAt cX2_owedAt 2 (some .int), Cond.methodLink RX2 124 yX4_unbilledDayTurns, Cond.instanceMethod yX4_unbilledDayTurns, Cond.selects RX4 yX4_unbilledDayTurns yX4_unbilledDayTurns, Cond.code yX4_unbilledDayTurns cX4_unbilledDayTurns 1 (some .int), Cond.methodLink RX2 128 yX4_unbilledNightTurns, Cond.instanceMethod yX4_unbilledNightTurns, Cond.selects RX4 yX4_unbilledNightTurns yX4_unbilledNightTurns, Cond.code yX4_unbilledNightTurns cX4_unbilledNightTurns 1 (some .int), Cond.methodLink RX2 85 yX4_settleBill, Cond.instanceMethod yX4_settleBill, Cond.selects RX4 yX4_settleBill yX4_settleBill, Cond.code yX4_settleBill cX4_settleBill 2 none]
def wsX6_carryOneOut_r7 : List Cond := [Cond.methodLink RX2 89 yX4_mend, Cond.instanceMethod yX4_mend, Cond.selects RX4 yX4_mend yX4_mend, Cond.code yX4_mend cX4_mend 2 none]
def wsX6_carryOneOut : List Cond := .code yX6_carryOneOut cX6_carryOneOut 3 (some .int) :: ((wsX6_carryOneOut_r1 ++ (wsX6_carryOneOut_r2 ++ (wsX6_carryOneOut_r3 ++ (wsX6_carryOneOut_r4 ++ (wsX6_carryOneOut_r5 ++ (wsX6_carryOneOut_r6 ++ wsX6_carryOneOut_r7)))))) ++ wsX60 ++ wsX50 ++ wsX20 ++ wsX40 ++ wsX30)
def wsX6_carryOut_r1 : List Cond := [Cond.fieldLink RX6 26 "EnergyDiscs" "pad" "LEnergyDiscs$Pad;", Cond.fieldLink RX6 33 "EnergyDiscs" "history" "LEnergyDiscs$History;", Cond.fieldLink RX6 10 "EnergyDiscs" "house" "LEnergyDiscs$House;", Cond.fieldLink RX6 104 "EnergyDiscs$Pad" "length" "I", Cond.methodLink RX6 230 yX0_faultOf, Cond.static yX0_faultOf, Cond.initialized RX0, Cond.code yX0_faultOf cX0_faultOf 3 (some .int), Cond.fieldLink RX0 11 "EnergyDiscs$Pad" "length" "I", Cond.methodLink RX0 17 yX5_signAt, Cond.instanceMethod yX5_signAt, Cond.selects RX5 yX5_signAt yX5_signAt, Cond.initialized RX5, Cond.code yX5_signAt cX5_signAt 2 (some .int), Cond.fieldLink RX5 15 "EnergyDiscs$Pad" "length" "I", Cond.fieldLink RX5 9 "EnergyDiscs$Pad" "signs" "[C", Cond.methodLink RX0 21 yX0_stateAfter, Cond.static yX0_stateAfter, Cond.code yX0_stateAfter cX0_stateAfter 2 (some .int), Cond.methodLink RX0 25 yX0_mayEnd, Cond.static yX0_mayEnd, Cond.code yX0_mayEnd cX0_mayEnd 1 (some .boolean), Cond.methodLink RX0 29 yX0_stateAfterName, Cond.static yX0_stateAfterName]
def wsX6_carryOut_r2 : List Cond := [Cond.code yX0_stateAfterName cX0_stateAfterName 1 (some .int), Cond.methodLink RX0 32 yX0_ifDigit, Cond.static yX0_ifDigit, Cond.code yX0_ifDigit cX0_ifDigit 2 (some .int), Cond.methodLink RX6 45 yX1_prepare, Cond.instanceMethod yX1_prepare, Cond.selects RX1 yX1_prepare yX1_prepare, Cond.initialized RX1, Cond.code yX1_prepare cX1_prepare 2 none, Cond.fieldLink RX1 13 "EnergyDiscs$History" "states" "[LEnergyDiscs$House;", Cond.fieldLink RX1 18 "EnergyDiscs$History" "free" "I", Cond.methodLink RX1 25 yX2_copyFrom, Cond.instanceMethod yX2_copyFrom, Cond.selects RX2 yX2_copyFrom yX2_copyFrom, Cond.initialized RX2, Cond.code yX2_copyFrom cX2_copyFrom 3 none, Cond.fieldLink RX2 9 "EnergyDiscs$House" "settings" "[I", Cond.fieldLink RX2 32 "EnergyDiscs$House" "meterCount" "I", Cond.fieldLink RX2 17 "EnergyDiscs$House" "meters" "[LEnergyDiscs$Meter;", Cond.fieldLink RX2 40 "EnergyDiscs$House" "loadCount" "I", Cond.fieldLink RX2 23 "EnergyDiscs$House" "loads" "[LEnergyDiscs$Load;", Cond.fieldLink RX2 46 "EnergyDiscs$House" "time" "I", Cond.fieldLink RX2 49 "EnergyDiscs$House" "greatestSeal" "I", Cond.methodLink RX2 36 yX4_copyFrom]
def wsX6_carryOut_r3 : List Cond := [Cond.instanceMethod yX4_copyFrom, Cond.selects RX4 yX4_copyFrom yX4_copyFrom, Cond.initialized RX4, Cond.code yX4_copyFrom cX4_copyFrom 2 none, Cond.fieldLink RX4 15 "EnergyDiscs$Meter" "through" "I", Cond.fieldLink RX4 19 "EnergyDiscs$Meter" "place" "I", Cond.fieldLink RX4 22 "EnergyDiscs$Meter" "speed" "I", Cond.fieldLink RX4 25 "EnergyDiscs$Meter" "age" "I", Cond.fieldLink RX4 28 "EnergyDiscs$Meter" "dayTurns" "I", Cond.fieldLink RX4 31 "EnergyDiscs$Meter" "nightTurns" "I", Cond.fieldLink RX4 34 "EnergyDiscs$Meter" "billedDayTurns" "I", Cond.fieldLink RX4 37 "EnergyDiscs$Meter" "billedNightTurns" "I", Cond.fieldLink RX4 40 "EnergyDiscs$Meter" "flowed" "J", Cond.fieldLink RX4 44 "EnergyDiscs$Meter" "seal" "I", Cond.fieldLink RX4 47 "EnergyDiscs$Meter" "broken" "Z", Cond.fieldLink RX4 51 "EnergyDiscs$Meter" "billed" "I", Cond.fieldLink RX4 54 "EnergyDiscs$Meter" "visits" "I", Cond.methodLink RX2 43 yX3_copyFrom, Cond.instanceMethod yX3_copyFrom, Cond.selects RX3 yX3_copyFrom yX3_copyFrom, Cond.initialized RX3, Cond.code yX3_copyFrom cX3_copyFrom 2 none, Cond.fieldLink RX3 13 "EnergyDiscs$Load" "behind" "I", Cond.fieldLink RX3 17 "EnergyDiscs$Load" "power" "I"]
def wsX6_carryOut_r4 : List Cond := [Cond.fieldLink RX3 20 "EnergyDiscs$Load" "on" "Z", Cond.methodLink RX6 107 yX5_signAt, Cond.methodLink RX6 236 yX6_carryOneOut, Cond.instanceMethod yX6_carryOneOut, Cond.selects RX6 yX6_carryOneOut yX6_carryOneOut, Cond.initialized RX6, Cond.code yX6_carryOneOut cX6_carryOneOut 3 (some .int), Cond.methodLink RX6 239 yX5_numberIn, Cond.instanceMethod yX5_numberIn, Cond.selects RX5 yX5_numberIn yX5_numberIn, Cond.code yX5_numberIn cX5_numberIn 5 (some .int), Cond.methodLink RX5 19 yX5_signAt, Cond.methodLink RX6 57 yX2_addMeter, Cond.instanceMethod yX2_addMeter, Cond.selects RX2 yX2_addMeter yX2_addMeter, Cond.code yX2_addMeter cX2_addMeter 2 (some .int), Cond.methodLink RX2 58 yX2_meterAt, Cond.instanceMethod yX2_meterAt, Cond.selects RX2 yX2_meterAt yX2_meterAt, Cond.code yX2_meterAt cX2_meterAt 2 (some (.object "EnergyDiscs$Meter")), Cond.methodLink RX2 62 yX4_begin, Cond.instanceMethod yX4_begin, Cond.selects RX4 yX4_begin yX4_begin, Cond.code yX4_begin cX4_begin 3 none]
def wsX6_carryOut_r5 : List Cond := [Cond.methodLink RX6 60 yX2_addLoad, Cond.instanceMethod yX2_addLoad, Cond.selects RX2 yX2_addLoad yX2_addLoad, Cond.code yX2_addLoad cX2_addLoad 3 (some .int), Cond.methodLink RX2 66 yX3_begin, Cond.instanceMethod yX3_begin, Cond.selects RX3 yX3_begin yX3_begin, Cond.code yX3_begin cX3_begin 3 none, Cond.methodLink RX6 63 yX2_switchLoad, Cond.instanceMethod yX2_switchLoad, Cond.selects RX2 yX2_switchLoad yX2_switchLoad, Cond.code yX2_switchLoad cX2_switchLoad 3 (some .int), Cond.fieldLink RX2 71 "EnergyDiscs$Load" "on" "Z", Cond.methodLink RX2 67 yX2_loadAt, Cond.instanceMethod yX2_loadAt, Cond.selects RX2 yX2_loadAt yX2_loadAt, Cond.code yX2_loadAt cX2_loadAt 2 (some (.object "EnergyDiscs$Load")), Cond.methodLink RX6 72 yX2_elapse, Cond.instanceMethod yX2_elapse, Cond.selects RX2 yX2_elapse yX2_elapse, Cond.code yX2_elapse cX2_elapse 4 (some .int), Cond.constant RX2 92 (99999), Cond.methodLink RX2 93 yX2_powerOf, Cond.instanceMethod yX2_powerOf]
def wsX6_carryOut_r6 : List Cond := [Cond.selects RX2 yX2_powerOf yX2_powerOf, Cond.code yX2_powerOf cX2_powerOf 5 (some .int), Cond.fieldLink RX2 134 "EnergyDiscs$Load" "behind" "I", Cond.fieldLink RX2 141 "EnergyDiscs$Load" "power" "I", Cond.methodLink RX2 131 yX2_fedThrough, Cond.instanceMethod yX2_fedThrough, Cond.selects RX2 yX2_fedThrough yX2_fedThrough, Cond.code yX2_fedThrough cX2_fedThrough 4 (some .int), Cond.fieldLink RX2 144 "EnergyDiscs$Meter" "through" "I", Cond.methodLink RX2 137 yX2_contains, Cond.static yX2_contains, Cond.code yX2_contains cX2_contains 2 (some .boolean), Cond.methodLink RX2 97 yX2_runDisc, Cond.instanceMethod yX2_runDisc, Cond.selects RX2 yX2_runDisc yX2_runDisc, Cond.code yX2_runDisc cX2_runDisc 9 (some .int), Cond.methodLink RX2 107 Lib.Math.min.name, Cond.static Lib.Math.min.name, Cond.initialized "java/lang/Math", Cond.code Lib.Math.min.name Lib.Math.min.code 2 (some .int), Cond.methodLink RX2 113 Lib.Math.max.name, Cond.static Lib.Math.max.name, Cond.code Lib.Math.max.name Lib.Math.max.code 2 (some .int), Cond.static yX6_minutesToSwitch]
def wsX6_carryOut_r7 : List Cond := [Cond.code yX6_minutesToSwitch cX6_minutesToSwitch 2 (some .int), Cond.methodLink RX2 104 yX4_minutesToAge, Cond.instanceMethod yX4_minutesToAge, Cond.selects RX4 yX4_minutesToAge yX4_minutesToAge, Cond.code yX4_minutesToAge cX4_minutesToAge 2 (some .int), Cond.methodLink RX4 67 Lib.Math.max.name, Cond.static yX6_isNight, Cond.code yX6_isNight cX6_isNight 2 (some .boolean), Cond.methodLink RX2 120 yX4_run, Cond.instanceMethod yX4_run, Cond.selects RX4 yX4_run yX4_run, Cond.code yX4_run cX4_run 6 (some .int), Cond.methodLink RX4 77 Lib.Math.min.name, Cond.methodLink RX4 73 yX4_wayIn, Cond.instanceMethod yX4_wayIn, Cond.selects RX4 yX4_wayIn yX4_wayIn, Cond.code yX4_wayIn cX4_wayIn 5 (some .int), Cond.methodLink RX6 66 yX2_breakSeal, Cond.instanceMethod yX2_breakSeal, Cond.selects RX2 yX2_breakSeal yX2_breakSeal, Cond.code yX2_breakSeal cX2_breakSeal 3 (some .int), Cond.fieldLink RX2 75 "EnergyDiscs$Meter" "broken" "Z", Cond.fieldLink RX2 78 "EnergyDiscs$Meter" "seal" "I", Cond.methodLink RX6 69 yX2_inspect]
def wsX6_carryOut_r8 : List Cond := [Cond.instanceMethod yX2_inspect, Cond.selects RX2 yX2_inspect yX2_inspect, Cond.code yX2_inspect cX2_inspect 4 (some .int), Cond.methodLink RX2 81 yX2_owedAt, Cond.instanceMethod yX2_owedAt, Cond.selects RX2 yX2_owedAt yX2_owedAt, Cond.code yX2_owedAt cX2_owedAt 2 (some .int), Cond.methodLink RX2 124 yX4_unbilledDayTurns, Cond.instanceMethod yX4_unbilledDayTurns, Cond.selects RX4 yX4_unbilledDayTurns yX4_unbilledDayTurns, Cond.code yX4_unbilledDayTurns cX4_unbilledDayTurns 1 (some .int), Cond.methodLink RX2 128 yX4_unbilledNightTurns, Cond.instanceMethod yX4_unbilledNightTurns, Cond.selects RX4 yX4_unbilledNightTurns yX4_unbilledNightTurns, Cond.code yX4_unbilledNightTurns cX4_unbilledNightTurns 1 (some .int), Cond.methodLink RX2 85 yX4_settleBill, Cond.instanceMethod yX4_settleBill, Cond.selects RX4 yX4_settleBill yX4_settleBill, Cond.code yX4_settleBill cX4_settleBill 2 none, Cond.methodLink RX2 89 yX4_mend, Cond.instanceMethod yX4_mend, Cond.selects RX4 yX4_mend yX4_mend, Cond.code yX4_mend cX4_mend 2 none, Cond.methodLink RX6 79 yX5_clear]
def wsX6_carryOut_r9 : List Cond := [Cond.instanceMethod yX5_clear, Cond.selects RX5 yX5_clear yX5_clear, Cond.code yX5_clear cX5_clear 1 none, Cond.methodLink RX6 53 yX1_settle, Cond.instanceMethod yX1_settle, Cond.selects RX1 yX1_settle yX1_settle, Cond.code yX1_settle cX1_settle 2 (some .int), Cond.fieldLink RX1 22 "EnergyDiscs$History" "kept" "I", Cond.methodLink RX1 29 Lib.Math.min.name]
def wsX6_carryOut : List Cond := .code yX6_carryOut cX6_carryOut 4 (some .int) :: ((wsX6_carryOut_r1 ++ (wsX6_carryOut_r2 ++ (wsX6_carryOut_r3 ++ (wsX6_carryOut_r4 ++ (wsX6_carryOut_r5 ++ (wsX6_carryOut_r6 ++ (wsX6_carryOut_r7 ++ (wsX6_carryOut_r8 ++ wsX6_carryOut_r9)))))))) ++ wsX60 ++ wsX50 ++ wsX10 ++ wsX20 ++ wsX40 ++ wsX30)
def wsX6_undo_r1 : List Cond := [Cond.fieldLink RX6 33 "EnergyDiscs" "history" "LEnergyDiscs$History;", Cond.fieldLink RX6 196 "EnergyDiscs$History" "kept" "I", Cond.fieldLink RX6 10 "EnergyDiscs" "house" "LEnergyDiscs$House;", Cond.methodLink RX6 242 yX1_takeLatest, Cond.instanceMethod yX1_takeLatest, Cond.selects RX1 yX1_takeLatest yX1_takeLatest, Cond.initialized RX1, Cond.code yX1_takeLatest cX1_takeLatest 1 (some (.object "EnergyDiscs$House")), Cond.fieldLink RX1 22 "EnergyDiscs$History" "kept" "I", Cond.fieldLink RX1 18 "EnergyDiscs$History" "free" "I", Cond.fieldLink RX1 13 "EnergyDiscs$History" "states" "[LEnergyDiscs$House;", Cond.methodLink RX6 246 yX2_copyFrom, Cond.instanceMethod yX2_copyFrom, Cond.selects RX2 yX2_copyFrom yX2_copyFrom, Cond.initialized RX2, Cond.code yX2_copyFrom cX2_copyFrom 3 none, Cond.fieldLink RX2 9 "EnergyDiscs$House" "settings" "[I", Cond.fieldLink RX2 32 "EnergyDiscs$House" "meterCount" "I", Cond.fieldLink RX2 17 "EnergyDiscs$House" "meters" "[LEnergyDiscs$Meter;", Cond.fieldLink RX2 40 "EnergyDiscs$House" "loadCount" "I", Cond.fieldLink RX2 23 "EnergyDiscs$House" "loads" "[LEnergyDiscs$Load;", Cond.fieldLink RX2 46 "EnergyDiscs$House" "time" "I", Cond.fieldLink RX2 49 "EnergyDiscs$House" "greatestSeal" "I", Cond.methodLink RX2 36 yX4_copyFrom]
def wsX6_undo_r2 : List Cond := [Cond.instanceMethod yX4_copyFrom, Cond.selects RX4 yX4_copyFrom yX4_copyFrom, Cond.initialized RX4, Cond.code yX4_copyFrom cX4_copyFrom 2 none, Cond.fieldLink RX4 15 "EnergyDiscs$Meter" "through" "I", Cond.fieldLink RX4 19 "EnergyDiscs$Meter" "place" "I", Cond.fieldLink RX4 22 "EnergyDiscs$Meter" "speed" "I", Cond.fieldLink RX4 25 "EnergyDiscs$Meter" "age" "I", Cond.fieldLink RX4 28 "EnergyDiscs$Meter" "dayTurns" "I", Cond.fieldLink RX4 31 "EnergyDiscs$Meter" "nightTurns" "I", Cond.fieldLink RX4 34 "EnergyDiscs$Meter" "billedDayTurns" "I", Cond.fieldLink RX4 37 "EnergyDiscs$Meter" "billedNightTurns" "I", Cond.fieldLink RX4 40 "EnergyDiscs$Meter" "flowed" "J", Cond.fieldLink RX4 44 "EnergyDiscs$Meter" "seal" "I", Cond.fieldLink RX4 47 "EnergyDiscs$Meter" "broken" "Z", Cond.fieldLink RX4 51 "EnergyDiscs$Meter" "billed" "I", Cond.fieldLink RX4 54 "EnergyDiscs$Meter" "visits" "I", Cond.methodLink RX2 43 yX3_copyFrom, Cond.instanceMethod yX3_copyFrom, Cond.selects RX3 yX3_copyFrom yX3_copyFrom, Cond.initialized RX3, Cond.code yX3_copyFrom cX3_copyFrom 2 none, Cond.fieldLink RX3 13 "EnergyDiscs$Load" "behind" "I", Cond.fieldLink RX3 17 "EnergyDiscs$Load" "power" "I"]
def wsX6_undo_r3 : List Cond := [Cond.fieldLink RX3 20 "EnergyDiscs$Load" "on" "Z"]
def wsX6_undo : List Cond := .code yX6_undo cX6_undo 1 (some .int) :: ((wsX6_undo_r1 ++ (wsX6_undo_r2 ++ wsX6_undo_r3)) ++ wsX60 ++ wsX10 ++ wsX20 ++ wsX40 ++ wsX30)
def wsX6_save_r1 : List Cond := [Cond.fieldLink RX6 37 "EnergyDiscs" "slots" "[LEnergyDiscs$House;", Cond.fieldLink RX6 10 "EnergyDiscs" "house" "LEnergyDiscs$House;", Cond.fieldLink RX6 41 "EnergyDiscs" "slotsUsed" "[Z", Cond.fieldLink RX6 174 "EnergyDiscs$House" "meterCount" "I", Cond.methodLink RX6 246 yX2_copyFrom, Cond.instanceMethod yX2_copyFrom, Cond.selects RX2 yX2_copyFrom yX2_copyFrom, Cond.initialized RX2, Cond.code yX2_copyFrom cX2_copyFrom 3 none, Cond.fieldLink RX2 9 "EnergyDiscs$House" "settings" "[I", Cond.fieldLink RX2 32 "EnergyDiscs$House" "meterCount" "I", Cond.fieldLink RX2 17 "EnergyDiscs$House" "meters" "[LEnergyDiscs$Meter;", Cond.fieldLink RX2 40 "EnergyDiscs$House" "loadCount" "I", Cond.fieldLink RX2 23 "EnergyDiscs$House" "loads" "[LEnergyDiscs$Load;", Cond.fieldLink RX2 46 "EnergyDiscs$House" "time" "I", Cond.fieldLink RX2 49 "EnergyDiscs$House" "greatestSeal" "I", Cond.methodLink RX2 36 yX4_copyFrom, Cond.instanceMethod yX4_copyFrom, Cond.selects RX4 yX4_copyFrom yX4_copyFrom, Cond.initialized RX4, Cond.code yX4_copyFrom cX4_copyFrom 2 none, Cond.fieldLink RX4 15 "EnergyDiscs$Meter" "through" "I", Cond.fieldLink RX4 19 "EnergyDiscs$Meter" "place" "I", Cond.fieldLink RX4 22 "EnergyDiscs$Meter" "speed" "I"]
def wsX6_save_r2 : List Cond := [Cond.fieldLink RX4 25 "EnergyDiscs$Meter" "age" "I", Cond.fieldLink RX4 28 "EnergyDiscs$Meter" "dayTurns" "I", Cond.fieldLink RX4 31 "EnergyDiscs$Meter" "nightTurns" "I", Cond.fieldLink RX4 34 "EnergyDiscs$Meter" "billedDayTurns" "I", Cond.fieldLink RX4 37 "EnergyDiscs$Meter" "billedNightTurns" "I", Cond.fieldLink RX4 40 "EnergyDiscs$Meter" "flowed" "J", Cond.fieldLink RX4 44 "EnergyDiscs$Meter" "seal" "I", Cond.fieldLink RX4 47 "EnergyDiscs$Meter" "broken" "Z", Cond.fieldLink RX4 51 "EnergyDiscs$Meter" "billed" "I", Cond.fieldLink RX4 54 "EnergyDiscs$Meter" "visits" "I", Cond.methodLink RX2 43 yX3_copyFrom, Cond.instanceMethod yX3_copyFrom, Cond.selects RX3 yX3_copyFrom yX3_copyFrom, Cond.initialized RX3, Cond.code yX3_copyFrom cX3_copyFrom 2 none, Cond.fieldLink RX3 13 "EnergyDiscs$Load" "behind" "I", Cond.fieldLink RX3 17 "EnergyDiscs$Load" "power" "I", Cond.fieldLink RX3 20 "EnergyDiscs$Load" "on" "Z"]
def wsX6_save : List Cond := .code yX6_save cX6_save 2 (some .int) :: ((wsX6_save_r1 ++ wsX6_save_r2) ++ wsX60 ++ wsX20 ++ wsX40 ++ wsX30)
def wsX6_restore_r1 : List Cond := [Cond.fieldLink RX6 41 "EnergyDiscs" "slotsUsed" "[Z", Cond.fieldLink RX6 33 "EnergyDiscs" "history" "LEnergyDiscs$History;", Cond.fieldLink RX6 10 "EnergyDiscs" "house" "LEnergyDiscs$House;", Cond.fieldLink RX6 37 "EnergyDiscs" "slots" "[LEnergyDiscs$House;", Cond.fieldLink RX6 174 "EnergyDiscs$House" "meterCount" "I", Cond.methodLink RX6 45 yX1_prepare, Cond.instanceMethod yX1_prepare, Cond.selects RX1 yX1_prepare yX1_prepare, Cond.initialized RX1, Cond.code yX1_prepare cX1_prepare 2 none, Cond.fieldLink RX1 13 "EnergyDiscs$History" "states" "[LEnergyDiscs$House;", Cond.fieldLink RX1 18 "EnergyDiscs$History" "free" "I", Cond.methodLink RX1 25 yX2_copyFrom, Cond.instanceMethod yX2_copyFrom, Cond.selects RX2 yX2_copyFrom yX2_copyFrom, Cond.initialized RX2, Cond.code yX2_copyFrom cX2_copyFrom 3 none, Cond.fieldLink RX2 9 "EnergyDiscs$House" "settings" "[I", Cond.fieldLink RX2 32 "EnergyDiscs$House" "meterCount" "I", Cond.fieldLink RX2 17 "EnergyDiscs$House" "meters" "[LEnergyDiscs$Meter;", Cond.fieldLink RX2 40 "EnergyDiscs$House" "loadCount" "I", Cond.fieldLink RX2 23 "EnergyDiscs$House" "loads" "[LEnergyDiscs$Load;", Cond.fieldLink RX2 46 "EnergyDiscs$House" "time" "I", Cond.fieldLink RX2 49 "EnergyDiscs$House" "greatestSeal" "I"]
def wsX6_restore_r2 : List Cond := [Cond.methodLink RX2 36 yX4_copyFrom, Cond.instanceMethod yX4_copyFrom, Cond.selects RX4 yX4_copyFrom yX4_copyFrom, Cond.initialized RX4, Cond.code yX4_copyFrom cX4_copyFrom 2 none, Cond.fieldLink RX4 15 "EnergyDiscs$Meter" "through" "I", Cond.fieldLink RX4 19 "EnergyDiscs$Meter" "place" "I", Cond.fieldLink RX4 22 "EnergyDiscs$Meter" "speed" "I", Cond.fieldLink RX4 25 "EnergyDiscs$Meter" "age" "I", Cond.fieldLink RX4 28 "EnergyDiscs$Meter" "dayTurns" "I", Cond.fieldLink RX4 31 "EnergyDiscs$Meter" "nightTurns" "I", Cond.fieldLink RX4 34 "EnergyDiscs$Meter" "billedDayTurns" "I", Cond.fieldLink RX4 37 "EnergyDiscs$Meter" "billedNightTurns" "I", Cond.fieldLink RX4 40 "EnergyDiscs$Meter" "flowed" "J", Cond.fieldLink RX4 44 "EnergyDiscs$Meter" "seal" "I", Cond.fieldLink RX4 47 "EnergyDiscs$Meter" "broken" "Z", Cond.fieldLink RX4 51 "EnergyDiscs$Meter" "billed" "I", Cond.fieldLink RX4 54 "EnergyDiscs$Meter" "visits" "I", Cond.methodLink RX2 43 yX3_copyFrom, Cond.instanceMethod yX3_copyFrom, Cond.selects RX3 yX3_copyFrom yX3_copyFrom, Cond.initialized RX3, Cond.code yX3_copyFrom cX3_copyFrom 2 none, Cond.fieldLink RX3 13 "EnergyDiscs$Load" "behind" "I"]
def wsX6_restore_r3 : List Cond := [Cond.fieldLink RX3 17 "EnergyDiscs$Load" "power" "I", Cond.fieldLink RX3 20 "EnergyDiscs$Load" "on" "Z", Cond.methodLink RX6 246 yX2_copyFrom, Cond.methodLink RX6 53 yX1_settle, Cond.instanceMethod yX1_settle, Cond.selects RX1 yX1_settle yX1_settle, Cond.code yX1_settle cX1_settle 2 (some .int), Cond.fieldLink RX1 22 "EnergyDiscs$History" "kept" "I", Cond.methodLink RX1 29 Lib.Math.min.name, Cond.static Lib.Math.min.name, Cond.initialized "java/lang/Math", Cond.code Lib.Math.min.name Lib.Math.min.code 2 (some .int)]
def wsX6_restore : List Cond := .code yX6_restore cX6_restore 2 (some .int) :: ((wsX6_restore_r1 ++ (wsX6_restore_r2 ++ wsX6_restore_r3)) ++ wsX60 ++ wsX20 ++ wsX10 ++ wsX40 ++ wsX30)
def wsX7_init : List Cond := .code yX7_init cX7_init 1 none :: ([.methodLink RX7 1 objectInit, .instanceMethod objectInit, .code objectInit ⟨#[0xb1]⟩ 1 none, .arrayClass .long, .fieldLink RX7 7 "EnergyDiscsModel" "s" "[J", .fieldLink RX7 13 "EnergyDiscsModel" "past" "[J", .fieldLink RX7 16 "EnergyDiscsModel" "slots" "[J", .arrayClass .boolean, .fieldLink RX7 19 "EnergyDiscsModel" "isSaved" "[Z", .arrayClass .int, .fieldLink RX7 23 "EnergyDiscsModel" "pad" "[I", .constantLong RX7 27 (15), .constantLong RX7 29 (2), .constantLong RX7 31 (1000), .constantLong RX7 33 (9), .constantLong RX7 35 (5)] ++ wsX70)
def wsX7_in : List Cond := .code yX7_in cX7_in 3 (some .boolean) :: ([])
def wsX7_num : List Cond := .code yX7_num cX7_num 2 (some .int) :: ([.fieldLink RX7 7 "EnergyDiscsModel" "s" "[J"] ++ wsX70)
def wsX7_isMeter : List Cond := .code yX7_isMeter cX7_isMeter 2 (some .boolean) :: ([.methodLink RX7 37 yX7_num, .instanceMethod yX7_num, .selects RX7 yX7_num yX7_num, .initialized RX7, .code yX7_num cX7_num 2 (some .int), .fieldLink RX7 7 "EnergyDiscsModel" "s" "[J", .methodLink RX7 41 yX7_in, .static yX7_in, .code yX7_in cX7_in 3 (some .boolean)] ++ wsX70)
def wsX7_at : List Cond := .code yX7_at cX7_at 2 (some .int) :: ([])
def wsX7_its : List Cond := .code yX7_its cX7_its 3 (some .int) :: ([.fieldLink RX7 7 "EnergyDiscsModel" "s" "[J", .methodLink RX7 45 yX7_at, .static yX7_at, .initialized RX7, .code yX7_at cX7_at 2 (some .int)] ++ wsX70)
def wsX7_remembers : List Cond := .code yX7_remembers cX7_remembers 2 none :: ([.fieldLink RX7 49 "EnergyDiscsModel" "known" "I", .fieldLink RX7 13 "EnergyDiscsModel" "past" "[J", .fieldLink RX7 7 "EnergyDiscsModel" "s" "[J"] ++ wsX70)
def wsX7_copies : List Cond := .code yX7_copies cX7_copies 2 none :: ([.fieldLink RX7 7 "EnergyDiscsModel" "s" "[J"] ++ wsX70)
def wsX7_isThrough : List Cond := .code yX7_isThrough cX7_isThrough 4 (some .boolean) :: ([.methodLink RX7 53 yX7_its, .instanceMethod yX7_its, .selects RX7 yX7_its yX7_its, .initialized RX7, .code yX7_its cX7_its 3 (some .int), .fieldLink RX7 7 "EnergyDiscsModel" "s" "[J", .methodLink RX7 45 yX7_at, .static yX7_at, .code yX7_at cX7_at 2 (some .int)] ++ wsX70)
def wsX7_power : List Cond := .code yX7_power cX7_power 5 (some .int) :: ([.fieldLink RX7 7 "EnergyDiscsModel" "s" "[J", .methodLink RX7 37 yX7_num, .instanceMethod yX7_num, .selects RX7 yX7_num yX7_num, .initialized RX7, .code yX7_num cX7_num 2 (some .int), .methodLink RX7 56 yX7_isThrough, .instanceMethod yX7_isThrough, .selects RX7 yX7_isThrough yX7_isThrough, .code yX7_isThrough cX7_isThrough 4 (some .boolean), .methodLink RX7 53 yX7_its, .instanceMethod yX7_its, .selects RX7 yX7_its yX7_its, .code yX7_its cX7_its 3 (some .int), .methodLink RX7 45 yX7_at, .static yX7_at, .code yX7_at cX7_at 2 (some .int)] ++ wsX70)
def wsX7_isNight : List Cond := .code yX7_isNight cX7_isNight 4 (some .boolean) :: ([.constantLong RX7 60 (1440), .constantLong RX7 62 (1320), .constantLong RX7 64 (360)])
def wsX7_goes : List Cond := .code yX7_goes cX7_goes 9 (some .long) :: ([.fieldLink RX7 7 "EnergyDiscsModel" "s" "[J", .constantLong RX7 66 (100), .constantLong RX7 29 (2), .constantLong RX7 68 (6000), .methodLink RX7 45 yX7_at, .static yX7_at, .initialized RX7, .code yX7_at cX7_at 2 (some .int)] ++ wsX70)
def wsX7_passesOne_r1 : List Cond := [Cond.fieldLink RX7 7 "EnergyDiscsModel" "s" "[J", Cond.constantLong RX7 68 (6000), Cond.constantLong RX7 81 (160), Cond.methodLink RX7 45 yX7_at, Cond.static yX7_at, Cond.initialized RX7, Cond.code yX7_at cX7_at 2 (some .int), Cond.methodLink RX7 70 yX7_power, Cond.instanceMethod yX7_power, Cond.selects RX7 yX7_power yX7_power, Cond.code yX7_power cX7_power 5 (some .int), Cond.methodLink RX7 37 yX7_num, Cond.instanceMethod yX7_num, Cond.selects RX7 yX7_num yX7_num, Cond.code yX7_num cX7_num 2 (some .int), Cond.methodLink RX7 56 yX7_isThrough, Cond.instanceMethod yX7_isThrough, Cond.selects RX7 yX7_isThrough yX7_isThrough, Cond.code yX7_isThrough cX7_isThrough 4 (some .boolean), Cond.methodLink RX7 53 yX7_its, Cond.instanceMethod yX7_its, Cond.selects RX7 yX7_its yX7_its, Cond.code yX7_its cX7_its 3 (some .int), Cond.methodLink RX7 73 yX7_goes]
def wsX7_passesOne_r2 : List Cond := [Cond.instanceMethod yX7_goes, Cond.selects RX7 yX7_goes yX7_goes, Cond.code yX7_goes cX7_goes 9 (some .long), Cond.constantLong RX7 66 (100), Cond.constantLong RX7 29 (2), Cond.methodLink RX7 77 yX7_isNight, Cond.static yX7_isNight, Cond.code yX7_isNight cX7_isNight 4 (some .boolean), Cond.constantLong RX7 60 (1440), Cond.constantLong RX7 62 (1320), Cond.constantLong RX7 64 (360)]
def wsX7_passesOne : List Cond := .code yX7_passesOne cX7_passesOne 9 (some .int) :: ((wsX7_passesOne_r1 ++ wsX7_passesOne_r2) ++ wsX70)
def wsX7_passes_r1 : List Cond := [Cond.fieldLink RX7 7 "EnergyDiscsModel" "s" "[J", Cond.methodLink RX7 37 yX7_num, Cond.instanceMethod yX7_num, Cond.selects RX7 yX7_num yX7_num, Cond.initialized RX7, Cond.code yX7_num cX7_num 2 (some .int), Cond.methodLink RX7 83 yX7_passesOne, Cond.instanceMethod yX7_passesOne, Cond.selects RX7 yX7_passesOne yX7_passesOne, Cond.code yX7_passesOne cX7_passesOne 9 (some .int), Cond.constantLong RX7 68 (6000), Cond.constantLong RX7 81 (160), Cond.methodLink RX7 45 yX7_at, Cond.static yX7_at, Cond.code yX7_at cX7_at 2 (some .int), Cond.methodLink RX7 70 yX7_power, Cond.instanceMethod yX7_power, Cond.selects RX7 yX7_power yX7_power, Cond.code yX7_power cX7_power 5 (some .int), Cond.methodLink RX7 56 yX7_isThrough, Cond.instanceMethod yX7_isThrough, Cond.selects RX7 yX7_isThrough yX7_isThrough, Cond.code yX7_isThrough cX7_isThrough 4 (some .boolean), Cond.methodLink RX7 53 yX7_its]
def wsX7_passes_r2 : List Cond := [Cond.instanceMethod yX7_its, Cond.selects RX7 yX7_its yX7_its, Cond.code yX7_its cX7_its 3 (some .int), Cond.methodLink RX7 73 yX7_goes, Cond.instanceMethod yX7_goes, Cond.selects RX7 yX7_goes yX7_goes, Cond.code yX7_goes cX7_goes 9 (some .long), Cond.constantLong RX7 66 (100), Cond.constantLong RX7 29 (2), Cond.methodLink RX7 77 yX7_isNight, Cond.static yX7_isNight, Cond.code yX7_isNight cX7_isNight 4 (some .boolean), Cond.constantLong RX7 60 (1440), Cond.constantLong RX7 62 (1320), Cond.constantLong RX7 64 (360)]
def wsX7_passes : List Cond := .code yX7_passes cX7_passes 6 (some .int) :: ((wsX7_passes_r1 ++ wsX7_passes_r2) ++ wsX70)
def wsX7_lowOf : List Cond := .code yX7_lowOf cX7_lowOf 1 (some .int) :: ([])
def wsX7_highOf : List Cond := .code yX7_highOf cX7_highOf 1 (some .int) :: ([])
def wsX7_set : List Cond := .code yX7_set cX7_set 4 (some .int) :: ([.fieldLink RX7 7 "EnergyDiscsModel" "s" "[J", .methodLink RX7 41 yX7_in, .static yX7_in, .initialized RX7, .code yX7_in cX7_in 3 (some .boolean), .methodLink RX7 86 yX7_lowOf, .static yX7_lowOf, .code yX7_lowOf cX7_lowOf 1 (some .int), .methodLink RX7 89 yX7_highOf, .static yX7_highOf, .code yX7_highOf cX7_highOf 1 (some .int), .methodLink RX7 92 yX7_remembers, .instanceMethod yX7_remembers, .selects RX7 yX7_remembers yX7_remembers, .code yX7_remembers cX7_remembers 2 none, .fieldLink RX7 49 "EnergyDiscsModel" "known" "I", .fieldLink RX7 13 "EnergyDiscsModel" "past" "[J", .methodLink RX7 37 yX7_num, .instanceMethod yX7_num, .selects RX7 yX7_num yX7_num, .code yX7_num cX7_num 2 (some .int)] ++ wsX70)
def wsX7_whyNotMeter : List Cond := .code yX7_whyNotMeter cX7_whyNotMeter 2 (some .int) :: ([.methodLink RX7 37 yX7_num, .instanceMethod yX7_num, .selects RX7 yX7_num yX7_num, .initialized RX7, .code yX7_num cX7_num 2 (some .int), .fieldLink RX7 7 "EnergyDiscsModel" "s" "[J", .methodLink RX7 95 yX7_isMeter, .instanceMethod yX7_isMeter, .selects RX7 yX7_isMeter yX7_isMeter, .code yX7_isMeter cX7_isMeter 2 (some .boolean), .methodLink RX7 41 yX7_in, .static yX7_in, .code yX7_in cX7_in 3 (some .boolean)] ++ wsX70)
def wsX7_comes : List Cond := .code yX7_comes cX7_comes 4 (some .int) :: ([.fieldLink RX7 7 "EnergyDiscsModel" "s" "[J", .constantLong RX7 99 (-1), .constantLong RX7 66 (100), .methodLink RX7 37 yX7_num, .instanceMethod yX7_num, .selects RX7 yX7_num yX7_num, .initialized RX7, .code yX7_num cX7_num 2 (some .int), .methodLink RX7 45 yX7_at, .static yX7_at, .code yX7_at cX7_at 2 (some .int)] ++ wsX70)
def wsX7_meter_r1 : List Cond := [Cond.methodLink RX7 101 yX7_whyNotMeter, Cond.instanceMethod yX7_whyNotMeter, Cond.selects RX7 yX7_whyNotMeter yX7_whyNotMeter, Cond.initialized RX7, Cond.code yX7_whyNotMeter cX7_whyNotMeter 2 (some .int), Cond.methodLink RX7 37 yX7_num, Cond.instanceMethod yX7_num, Cond.selects RX7 yX7_num yX7_num, Cond.code yX7_num cX7_num 2 (some .int), Cond.fieldLink RX7 7 "EnergyDiscsModel" "s" "[J", Cond.methodLink RX7 95 yX7_isMeter, Cond.instanceMethod yX7_isMeter, Cond.selects RX7 yX7_isMeter yX7_isMeter, Cond.code yX7_isMeter cX7_isMeter 2 (some .boolean), Cond.methodLink RX7 41 yX7_in, Cond.static yX7_in, Cond.code yX7_in cX7_in 3 (some .boolean), Cond.methodLink RX7 92 yX7_remembers, Cond.instanceMethod yX7_remembers, Cond.selects RX7 yX7_remembers yX7_remembers, Cond.code yX7_remembers cX7_remembers 2 none, Cond.fieldLink RX7 49 "EnergyDiscsModel" "known" "I", Cond.fieldLink RX7 13 "EnergyDiscsModel" "past" "[J", Cond.methodLink RX7 104 yX7_comes]
def wsX7_meter_r2 : List Cond := [Cond.instanceMethod yX7_comes, Cond.selects RX7 yX7_comes yX7_comes, Cond.code yX7_comes cX7_comes 4 (some .int), Cond.constantLong RX7 99 (-1), Cond.constantLong RX7 66 (100), Cond.methodLink RX7 45 yX7_at, Cond.static yX7_at, Cond.code yX7_at cX7_at 2 (some .int)]
def wsX7_meter : List Cond := .code yX7_meter cX7_meter 3 (some .int) :: ((wsX7_meter_r1 ++ wsX7_meter_r2) ++ wsX70)
def wsX7_whyNotLoad : List Cond := .code yX7_whyNotLoad cX7_whyNotLoad 3 (some .int) :: ([.methodLink RX7 95 yX7_isMeter, .instanceMethod yX7_isMeter, .selects RX7 yX7_isMeter yX7_isMeter, .initialized RX7, .code yX7_isMeter cX7_isMeter 2 (some .boolean), .methodLink RX7 37 yX7_num, .instanceMethod yX7_num, .selects RX7 yX7_num yX7_num, .code yX7_num cX7_num 2 (some .int), .fieldLink RX7 7 "EnergyDiscsModel" "s" "[J", .methodLink RX7 41 yX7_in, .static yX7_in, .code yX7_in cX7_in 3 (some .boolean)] ++ wsX70)
def wsX7_loads : List Cond := .code yX7_loads cX7_loads 4 (some .int) :: ([.fieldLink RX7 7 "EnergyDiscsModel" "s" "[J", .methodLink RX7 37 yX7_num, .instanceMethod yX7_num, .selects RX7 yX7_num yX7_num, .initialized RX7, .code yX7_num cX7_num 2 (some .int)] ++ wsX70)
def wsX7_load_r1 : List Cond := [Cond.methodLink RX7 107 yX7_whyNotLoad, Cond.instanceMethod yX7_whyNotLoad, Cond.selects RX7 yX7_whyNotLoad yX7_whyNotLoad, Cond.initialized RX7, Cond.code yX7_whyNotLoad cX7_whyNotLoad 3 (some .int), Cond.methodLink RX7 95 yX7_isMeter, Cond.instanceMethod yX7_isMeter, Cond.selects RX7 yX7_isMeter yX7_isMeter, Cond.code yX7_isMeter cX7_isMeter 2 (some .boolean), Cond.methodLink RX7 37 yX7_num, Cond.instanceMethod yX7_num, Cond.selects RX7 yX7_num yX7_num, Cond.code yX7_num cX7_num 2 (some .int), Cond.fieldLink RX7 7 "EnergyDiscsModel" "s" "[J", Cond.methodLink RX7 41 yX7_in, Cond.static yX7_in, Cond.code yX7_in cX7_in 3 (some .boolean), Cond.methodLink RX7 92 yX7_remembers, Cond.instanceMethod yX7_remembers, Cond.selects RX7 yX7_remembers yX7_remembers, Cond.code yX7_remembers cX7_remembers 2 none, Cond.fieldLink RX7 49 "EnergyDiscsModel" "known" "I", Cond.fieldLink RX7 13 "EnergyDiscsModel" "past" "[J", Cond.methodLink RX7 110 yX7_loads]
def wsX7_load_r2 : List Cond := [Cond.instanceMethod yX7_loads, Cond.selects RX7 yX7_loads yX7_loads, Cond.code yX7_loads cX7_loads 4 (some .int)]
def wsX7_load : List Cond := .code yX7_load cX7_load 4 (some .int) :: ((wsX7_load_r1 ++ wsX7_load_r2) ++ wsX70)
def wsX7_isLoad : List Cond := .code yX7_isLoad cX7_isLoad 2 (some .boolean) :: ([.methodLink RX7 37 yX7_num, .instanceMethod yX7_num, .selects RX7 yX7_num yX7_num, .initialized RX7, .code yX7_num cX7_num 2 (some .int), .fieldLink RX7 7 "EnergyDiscsModel" "s" "[J", .methodLink RX7 41 yX7_in, .static yX7_in, .code yX7_in cX7_in 3 (some .boolean)] ++ wsX70)
def wsX7_turns : List Cond := .code yX7_turns cX7_turns 3 (some .int) :: ([.fieldLink RX7 7 "EnergyDiscsModel" "s" "[J", .methodLink RX7 37 yX7_num, .instanceMethod yX7_num, .selects RX7 yX7_num yX7_num, .initialized RX7, .code yX7_num cX7_num 2 (some .int)] ++ wsX70)
def wsX7_turn : List Cond := .code yX7_turn cX7_turn 2 (some .int) :: ([.methodLink RX7 113 yX7_isLoad, .instanceMethod yX7_isLoad, .selects RX7 yX7_isLoad yX7_isLoad, .initialized RX7, .code yX7_isLoad cX7_isLoad 2 (some .boolean), .methodLink RX7 37 yX7_num, .instanceMethod yX7_num, .selects RX7 yX7_num yX7_num, .code yX7_num cX7_num 2 (some .int), .fieldLink RX7 7 "EnergyDiscsModel" "s" "[J", .methodLink RX7 41 yX7_in, .static yX7_in, .code yX7_in cX7_in 3 (some .boolean), .methodLink RX7 92 yX7_remembers, .instanceMethod yX7_remembers, .selects RX7 yX7_remembers yX7_remembers, .code yX7_remembers cX7_remembers 2 none, .fieldLink RX7 49 "EnergyDiscsModel" "known" "I", .fieldLink RX7 13 "EnergyDiscsModel" "past" "[J", .methodLink RX7 116 yX7_turns, .instanceMethod yX7_turns, .selects RX7 yX7_turns yX7_turns, .code yX7_turns cX7_turns 3 (some .int)] ++ wsX70)
def wsX7_whyNotTamper : List Cond := .code yX7_whyNotTamper cX7_whyNotTamper 2 (some .int) :: ([.methodLink RX7 95 yX7_isMeter, .instanceMethod yX7_isMeter, .selects RX7 yX7_isMeter yX7_isMeter, .initialized RX7, .code yX7_isMeter cX7_isMeter 2 (some .boolean), .methodLink RX7 37 yX7_num, .instanceMethod yX7_num, .selects RX7 yX7_num yX7_num, .code yX7_num cX7_num 2 (some .int), .fieldLink RX7 7 "EnergyDiscsModel" "s" "[J", .methodLink RX7 41 yX7_in, .static yX7_in, .code yX7_in cX7_in 3 (some .boolean), .methodLink RX7 53 yX7_its, .instanceMethod yX7_its, .selects RX7 yX7_its yX7_its, .code yX7_its cX7_its 3 (some .int), .methodLink RX7 45 yX7_at, .static yX7_at, .code yX7_at cX7_at 2 (some .int)] ++ wsX70)
def wsX7_tamper_r1 : List Cond := [Cond.fieldLink RX7 7 "EnergyDiscsModel" "s" "[J", Cond.methodLink RX7 119 yX7_whyNotTamper, Cond.instanceMethod yX7_whyNotTamper, Cond.selects RX7 yX7_whyNotTamper yX7_whyNotTamper, Cond.initialized RX7, Cond.code yX7_whyNotTamper cX7_whyNotTamper 2 (some .int), Cond.methodLink RX7 95 yX7_isMeter, Cond.instanceMethod yX7_isMeter, Cond.selects RX7 yX7_isMeter yX7_isMeter, Cond.code yX7_isMeter cX7_isMeter 2 (some .boolean), Cond.methodLink RX7 37 yX7_num, Cond.instanceMethod yX7_num, Cond.selects RX7 yX7_num yX7_num, Cond.code yX7_num cX7_num 2 (some .int), Cond.methodLink RX7 41 yX7_in, Cond.static yX7_in, Cond.code yX7_in cX7_in 3 (some .boolean), Cond.methodLink RX7 53 yX7_its, Cond.instanceMethod yX7_its, Cond.selects RX7 yX7_its yX7_its, Cond.code yX7_its cX7_its 3 (some .int), Cond.methodLink RX7 45 yX7_at, Cond.static yX7_at, Cond.code yX7_at cX7_at 2 (some .int)]
def wsX7_tamper_r2 : List Cond := [Cond.methodLink RX7 92 yX7_remembers, Cond.instanceMethod yX7_remembers, Cond.selects RX7 yX7_remembers yX7_remembers, Cond.code yX7_remembers cX7_remembers 2 none, Cond.fieldLink RX7 49 "EnergyDiscsModel" "known" "I", Cond.fieldLink RX7 13 "EnergyDiscsModel" "past" "[J"]
def wsX7_tamper : List Cond := .code yX7_tamper cX7_tamper 3 (some .int) :: ((wsX7_tamper_r1 ++ wsX7_tamper_r2) ++ wsX70)
def wsX7_billOf : List Cond := .code yX7_billOf cX7_billOf 3 (some .int) :: ([.fieldLink RX7 7 "EnergyDiscsModel" "s" "[J", .methodLink RX7 45 yX7_at, .static yX7_at, .initialized RX7, .code yX7_at cX7_at 2 (some .int)] ++ wsX70)
def wsX7_visits : List Cond := .code yX7_visits cX7_visits 4 (some .int) :: ([.fieldLink RX7 7 "EnergyDiscsModel" "s" "[J", .constantLong RX7 66 (100), .methodLink RX7 45 yX7_at, .static yX7_at, .initialized RX7, .code yX7_at cX7_at 2 (some .int), .methodLink RX7 122 yX7_billOf, .instanceMethod yX7_billOf, .selects RX7 yX7_billOf yX7_billOf, .code yX7_billOf cX7_billOf 3 (some .int)] ++ wsX70)
def wsX7_visit_r1 : List Cond := [Cond.methodLink RX7 95 yX7_isMeter, Cond.instanceMethod yX7_isMeter, Cond.selects RX7 yX7_isMeter yX7_isMeter, Cond.initialized RX7, Cond.code yX7_isMeter cX7_isMeter 2 (some .boolean), Cond.methodLink RX7 37 yX7_num, Cond.instanceMethod yX7_num, Cond.selects RX7 yX7_num yX7_num, Cond.code yX7_num cX7_num 2 (some .int), Cond.fieldLink RX7 7 "EnergyDiscsModel" "s" "[J", Cond.methodLink RX7 41 yX7_in, Cond.static yX7_in, Cond.code yX7_in cX7_in 3 (some .boolean), Cond.methodLink RX7 92 yX7_remembers, Cond.instanceMethod yX7_remembers, Cond.selects RX7 yX7_remembers yX7_remembers, Cond.code yX7_remembers cX7_remembers 2 none, Cond.fieldLink RX7 49 "EnergyDiscsModel" "known" "I", Cond.fieldLink RX7 13 "EnergyDiscsModel" "past" "[J", Cond.methodLink RX7 125 yX7_visits, Cond.instanceMethod yX7_visits, Cond.selects RX7 yX7_visits yX7_visits, Cond.code yX7_visits cX7_visits 4 (some .int), Cond.constantLong RX7 66 (100)]
def wsX7_visit_r2 : List Cond := [Cond.methodLink RX7 45 yX7_at, Cond.static yX7_at, Cond.code yX7_at cX7_at 2 (some .int), Cond.methodLink RX7 122 yX7_billOf, Cond.instanceMethod yX7_billOf, Cond.selects RX7 yX7_billOf yX7_billOf, Cond.code yX7_billOf cX7_billOf 3 (some .int)]
def wsX7_visit : List Cond := .code yX7_visit cX7_visit 2 (some .int) :: ((wsX7_visit_r1 ++ wsX7_visit_r2) ++ wsX70)
def wsX7_whyNotPass : List Cond := .code yX7_whyNotPass cX7_whyNotPass 2 (some .int) :: ([.constant RX7 128 (99999), .methodLink RX7 41 yX7_in, .static yX7_in, .initialized RX7, .code yX7_in cX7_in 3 (some .boolean), .methodLink RX7 37 yX7_num, .instanceMethod yX7_num, .selects RX7 yX7_num yX7_num, .code yX7_num cX7_num 2 (some .int), .fieldLink RX7 7 "EnergyDiscsModel" "s" "[J"] ++ wsX70)
def wsX7_pass_r1 : List Cond := [Cond.methodLink RX7 129 yX7_whyNotPass, Cond.instanceMethod yX7_whyNotPass, Cond.selects RX7 yX7_whyNotPass yX7_whyNotPass, Cond.initialized RX7, Cond.code yX7_whyNotPass cX7_whyNotPass 2 (some .int), Cond.constant RX7 128 (99999), Cond.methodLink RX7 41 yX7_in, Cond.static yX7_in, Cond.code yX7_in cX7_in 3 (some .boolean), Cond.methodLink RX7 37 yX7_num, Cond.instanceMethod yX7_num, Cond.selects RX7 yX7_num yX7_num, Cond.code yX7_num cX7_num 2 (some .int), Cond.fieldLink RX7 7 "EnergyDiscsModel" "s" "[J", Cond.methodLink RX7 92 yX7_remembers, Cond.instanceMethod yX7_remembers, Cond.selects RX7 yX7_remembers yX7_remembers, Cond.code yX7_remembers cX7_remembers 2 none, Cond.fieldLink RX7 49 "EnergyDiscsModel" "known" "I", Cond.fieldLink RX7 13 "EnergyDiscsModel" "past" "[J", Cond.methodLink RX7 132 yX7_passes, Cond.instanceMethod yX7_passes, Cond.selects RX7 yX7_passes yX7_passes, Cond.code yX7_passes cX7_passes 6 (some .int)]
def wsX7_pass_r2 : List Cond := [Cond.methodLink RX7 83 yX7_passesOne, Cond.instanceMethod yX7_passesOne, Cond.selects RX7 yX7_passesOne yX7_passesOne, Cond.code yX7_passesOne cX7_passesOne 9 (some .int), Cond.constantLong RX7 68 (6000), Cond.constantLong RX7 81 (160), Cond.methodLink RX7 45 yX7_at, Cond.static yX7_at, Cond.code yX7_at cX7_at 2 (some .int), Cond.methodLink RX7 70 yX7_power, Cond.instanceMethod yX7_power, Cond.selects RX7 yX7_power yX7_power, Cond.code yX7_power cX7_power 5 (some .int), Cond.methodLink RX7 56 yX7_isThrough, Cond.instanceMethod yX7_isThrough, Cond.selects RX7 yX7_isThrough yX7_isThrough, Cond.code yX7_isThrough cX7_isThrough 4 (some .boolean), Cond.methodLink RX7 53 yX7_its, Cond.instanceMethod yX7_its, Cond.selects RX7 yX7_its yX7_its, Cond.code yX7_its cX7_its 3 (some .int), Cond.methodLink RX7 73 yX7_goes, Cond.instanceMethod yX7_goes, Cond.selects RX7 yX7_goes yX7_goes]
def wsX7_pass_r3 : List Cond := [Cond.code yX7_goes cX7_goes 9 (some .long), Cond.constantLong RX7 66 (100), Cond.constantLong RX7 29 (2), Cond.methodLink RX7 77 yX7_isNight, Cond.static yX7_isNight, Cond.code yX7_isNight cX7_isNight 4 (some .boolean), Cond.constantLong RX7 60 (1440), Cond.constantLong RX7 62 (1320), Cond.constantLong RX7 64 (360)]
def wsX7_pass : List Cond := .code yX7_pass cX7_pass 3 (some .int) :: ((wsX7_pass_r1 ++ (wsX7_pass_r2 ++ wsX7_pass_r3)) ++ wsX70)
def wsX7_types : List Cond := .code yX7_types cX7_types 2 none :: ([.fieldLink RX7 23 "EnergyDiscsModel" "pad" "[I", .fieldLink RX7 135 "EnergyDiscsModel" "length" "I"] ++ wsX70)
def wsX7_typesNumber : List Cond := .code yX7_typesNumber cX7_typesNumber 3 none :: ([.methodLink RX7 138 yX7_types, .instanceMethod yX7_types, .selects RX7 yX7_types yX7_types, .initialized RX7, .code yX7_types cX7_types 2 none, .fieldLink RX7 23 "EnergyDiscsModel" "pad" "[I", .fieldLink RX7 135 "EnergyDiscsModel" "length" "I"] ++ wsX70)
def wsX7_write_r1 : List Cond := [Cond.fieldLink RX7 135 "EnergyDiscsModel" "length" "I", Cond.methodLink RX7 95 yX7_isMeter, Cond.instanceMethod yX7_isMeter, Cond.selects RX7 yX7_isMeter yX7_isMeter, Cond.initialized RX7, Cond.code yX7_isMeter cX7_isMeter 2 (some .boolean), Cond.methodLink RX7 37 yX7_num, Cond.instanceMethod yX7_num, Cond.selects RX7 yX7_num yX7_num, Cond.code yX7_num cX7_num 2 (some .int), Cond.fieldLink RX7 7 "EnergyDiscsModel" "s" "[J", Cond.methodLink RX7 41 yX7_in, Cond.static yX7_in, Cond.code yX7_in cX7_in 3 (some .boolean), Cond.methodLink RX7 138 yX7_types, Cond.instanceMethod yX7_types, Cond.selects RX7 yX7_types yX7_types, Cond.code yX7_types cX7_types 2 none, Cond.fieldLink RX7 23 "EnergyDiscsModel" "pad" "[I", Cond.methodLink RX7 53 yX7_its, Cond.instanceMethod yX7_its, Cond.selects RX7 yX7_its yX7_its, Cond.code yX7_its cX7_its 3 (some .int), Cond.methodLink RX7 45 yX7_at]
def wsX7_write_r2 : List Cond := [Cond.static yX7_at, Cond.code yX7_at cX7_at 2 (some .int), Cond.methodLink RX7 142 yX7_typesNumber, Cond.instanceMethod yX7_typesNumber, Cond.selects RX7 yX7_typesNumber yX7_typesNumber, Cond.code yX7_typesNumber cX7_typesNumber 3 none]
def wsX7_write : List Cond := .code yX7_write cX7_write 2 (some .int) :: ((wsX7_write_r1 ++ wsX7_write_r2) ++ wsX70)
def wsX7_sign : List Cond := .code yX7_sign cX7_sign 2 (some .int) :: ([.fieldLink RX7 135 "EnergyDiscsModel" "length" "I", .fieldLink RX7 23 "EnergyDiscsModel" "pad" "[I", .methodLink RX7 41 yX7_in, .static yX7_in, .initialized RX7, .code yX7_in cX7_in 3 (some .boolean)] ++ wsX70)
def wsX7_untilWeaker : List Cond := .code yX7_untilWeaker cX7_untilWeaker 3 (some .int) :: ([.methodLink RX7 37 yX7_num, .instanceMethod yX7_num, .selects RX7 yX7_num yX7_num, .initialized RX7, .code yX7_num cX7_num 2 (some .int), .fieldLink RX7 7 "EnergyDiscsModel" "s" "[J", .methodLink RX7 53 yX7_its, .instanceMethod yX7_its, .selects RX7 yX7_its yX7_its, .code yX7_its cX7_its 3 (some .int), .methodLink RX7 45 yX7_at, .static yX7_at, .code yX7_at cX7_at 2 (some .int)] ++ wsX70)
def wsX7_of_r1 : List Cond := [Cond.fieldLink RX7 7 "EnergyDiscsModel" "s" "[J", Cond.constantLong RX7 68 (6000), Cond.methodLink RX7 95 yX7_isMeter, Cond.instanceMethod yX7_isMeter, Cond.selects RX7 yX7_isMeter yX7_isMeter, Cond.initialized RX7, Cond.code yX7_isMeter cX7_isMeter 2 (some .boolean), Cond.methodLink RX7 37 yX7_num, Cond.instanceMethod yX7_num, Cond.selects RX7 yX7_num yX7_num, Cond.code yX7_num cX7_num 2 (some .int), Cond.methodLink RX7 41 yX7_in, Cond.static yX7_in, Cond.code yX7_in cX7_in 3 (some .boolean), Cond.methodLink RX7 53 yX7_its, Cond.instanceMethod yX7_its, Cond.selects RX7 yX7_its yX7_its, Cond.code yX7_its cX7_its 3 (some .int), Cond.methodLink RX7 45 yX7_at, Cond.static yX7_at, Cond.code yX7_at cX7_at 2 (some .int), Cond.methodLink RX7 70 yX7_power, Cond.instanceMethod yX7_power, Cond.selects RX7 yX7_power yX7_power]
def wsX7_of_r2 : List Cond := [Cond.code yX7_power cX7_power 5 (some .int), Cond.methodLink RX7 56 yX7_isThrough, Cond.instanceMethod yX7_isThrough, Cond.selects RX7 yX7_isThrough yX7_isThrough, Cond.code yX7_isThrough cX7_isThrough 4 (some .boolean), Cond.methodLink RX7 145 yX7_untilWeaker, Cond.instanceMethod yX7_untilWeaker, Cond.selects RX7 yX7_untilWeaker yX7_untilWeaker, Cond.code yX7_untilWeaker cX7_untilWeaker 3 (some .int)]
def wsX7_of : List Cond := .code yX7_of cX7_of 3 (some .int) :: ((wsX7_of_r1 ++ wsX7_of_r2) ++ wsX70)
def wsX7_ofLoad : List Cond := .code yX7_ofLoad cX7_ofLoad 3 (some .int) :: ([.methodLink RX7 113 yX7_isLoad, .instanceMethod yX7_isLoad, .selects RX7 yX7_isLoad yX7_isLoad, .initialized RX7, .code yX7_isLoad cX7_isLoad 2 (some .boolean), .methodLink RX7 37 yX7_num, .instanceMethod yX7_num, .selects RX7 yX7_num yX7_num, .code yX7_num cX7_num 2 (some .int), .fieldLink RX7 7 "EnergyDiscsModel" "s" "[J", .methodLink RX7 41 yX7_in, .static yX7_in, .code yX7_in cX7_in 3 (some .boolean)] ++ wsX70)
def wsX7_turnsOf : List Cond := .code yX7_turnsOf cX7_turnsOf 2 (some .int) :: ([.methodLink RX7 53 yX7_its, .instanceMethod yX7_its, .selects RX7 yX7_its yX7_its, .initialized RX7, .code yX7_its cX7_its 3 (some .int), .fieldLink RX7 7 "EnergyDiscsModel" "s" "[J", .methodLink RX7 45 yX7_at, .static yX7_at, .code yX7_at cX7_at 2 (some .int)] ++ wsX70)
def wsX7_misses_r1 : List Cond := [Cond.constantLong RX7 99 (-1), Cond.fieldLink RX7 7 "EnergyDiscsModel" "s" "[J", Cond.constantLong RX7 68 (6000), Cond.constantLong RX7 151 (10000000000), Cond.methodLink RX7 95 yX7_isMeter, Cond.instanceMethod yX7_isMeter, Cond.selects RX7 yX7_isMeter yX7_isMeter, Cond.initialized RX7, Cond.code yX7_isMeter cX7_isMeter 2 (some .boolean), Cond.methodLink RX7 37 yX7_num, Cond.instanceMethod yX7_num, Cond.selects RX7 yX7_num yX7_num, Cond.code yX7_num cX7_num 2 (some .int), Cond.methodLink RX7 41 yX7_in, Cond.static yX7_in, Cond.code yX7_in cX7_in 3 (some .boolean), Cond.methodLink RX7 45 yX7_at, Cond.static yX7_at, Cond.code yX7_at cX7_at 2 (some .int), Cond.methodLink RX7 148 yX7_turnsOf, Cond.instanceMethod yX7_turnsOf, Cond.selects RX7 yX7_turnsOf yX7_turnsOf, Cond.code yX7_turnsOf cX7_turnsOf 2 (some .int), Cond.methodLink RX7 53 yX7_its]
def wsX7_misses_r2 : List Cond := [Cond.instanceMethod yX7_its, Cond.selects RX7 yX7_its yX7_its, Cond.code yX7_its cX7_its 3 (some .int)]
def wsX7_misses : List Cond := .code yX7_misses cX7_misses 2 (some .long) :: ((wsX7_misses_r1 ++ wsX7_misses_r2) ++ wsX70)
def wsX7_fed : List Cond := .code yX7_fed cX7_fed 4 (some .int) :: ([.methodLink RX7 95 yX7_isMeter, .instanceMethod yX7_isMeter, .selects RX7 yX7_isMeter yX7_isMeter, .initialized RX7, .code yX7_isMeter cX7_isMeter 2 (some .boolean), .methodLink RX7 37 yX7_num, .instanceMethod yX7_num, .selects RX7 yX7_num yX7_num, .code yX7_num cX7_num 2 (some .int), .fieldLink RX7 7 "EnergyDiscsModel" "s" "[J", .methodLink RX7 41 yX7_in, .static yX7_in, .code yX7_in cX7_in 3 (some .boolean), .methodLink RX7 56 yX7_isThrough, .instanceMethod yX7_isThrough, .selects RX7 yX7_isThrough yX7_isThrough, .code yX7_isThrough cX7_isThrough 4 (some .boolean), .methodLink RX7 53 yX7_its, .instanceMethod yX7_its, .selects RX7 yX7_its yX7_its, .code yX7_its cX7_its 3 (some .int), .methodLink RX7 45 yX7_at, .static yX7_at, .code yX7_at cX7_at 2 (some .int)] ++ wsX70)
def wsX7_ofAll : List Cond := .code yX7_ofAll cX7_ofAll 4 (some .int) :: ([.fieldLink RX7 7 "EnergyDiscsModel" "s" "[J", .methodLink RX7 37 yX7_num, .instanceMethod yX7_num, .selects RX7 yX7_num yX7_num, .initialized RX7, .code yX7_num cX7_num 2 (some .int), .methodLink RX7 53 yX7_its, .instanceMethod yX7_its, .selects RX7 yX7_its yX7_its, .code yX7_its cX7_its 3 (some .int), .methodLink RX7 45 yX7_at, .static yX7_at, .code yX7_at cX7_at 2 (some .int), .methodLink RX7 148 yX7_turnsOf, .instanceMethod yX7_turnsOf, .selects RX7 yX7_turnsOf yX7_turnsOf, .code yX7_turnsOf cX7_turnsOf 2 (some .int)] ++ wsX70)
def wsX7_count_r1 : List Cond := [Cond.fieldLink RX7 7 "EnergyDiscsModel" "s" "[J", Cond.fieldLink RX7 135 "EnergyDiscsModel" "length" "I", Cond.fieldLink RX7 49 "EnergyDiscsModel" "known" "I", Cond.methodLink RX7 37 yX7_num, Cond.instanceMethod yX7_num, Cond.selects RX7 yX7_num yX7_num, Cond.initialized RX7, Cond.code yX7_num cX7_num 2 (some .int), Cond.methodLink RX7 77 yX7_isNight, Cond.static yX7_isNight, Cond.code yX7_isNight cX7_isNight 4 (some .boolean), Cond.constantLong RX7 60 (1440), Cond.constantLong RX7 62 (1320), Cond.constantLong RX7 64 (360), Cond.methodLink RX7 153 yX7_ofAll, Cond.instanceMethod yX7_ofAll, Cond.selects RX7 yX7_ofAll yX7_ofAll, Cond.code yX7_ofAll cX7_ofAll 4 (some .int), Cond.methodLink RX7 53 yX7_its, Cond.instanceMethod yX7_its, Cond.selects RX7 yX7_its yX7_its, Cond.code yX7_its cX7_its 3 (some .int), Cond.methodLink RX7 45 yX7_at, Cond.static yX7_at]
def wsX7_count_r2 : List Cond := [Cond.code yX7_at cX7_at 2 (some .int), Cond.methodLink RX7 148 yX7_turnsOf, Cond.instanceMethod yX7_turnsOf, Cond.selects RX7 yX7_turnsOf yX7_turnsOf, Cond.code yX7_turnsOf cX7_turnsOf 2 (some .int), Cond.methodLink RX7 41 yX7_in, Cond.static yX7_in, Cond.code yX7_in cX7_in 3 (some .boolean)]
def wsX7_count : List Cond := .code yX7_count cX7_count 2 (some .int) :: ((wsX7_count_r1 ++ wsX7_count_r2) ++ wsX70)
def wsX7_bill : List Cond := .code yX7_bill cX7_bill 2 (some .int) :: ([.methodLink RX7 95 yX7_isMeter, .instanceMethod yX7_isMeter, .selects RX7 yX7_isMeter yX7_isMeter, .initialized RX7, .code yX7_isMeter cX7_isMeter 2 (some .boolean), .methodLink RX7 37 yX7_num, .instanceMethod yX7_num, .selects RX7 yX7_num yX7_num, .code yX7_num cX7_num 2 (some .int), .fieldLink RX7 7 "EnergyDiscsModel" "s" "[J", .methodLink RX7 41 yX7_in, .static yX7_in, .code yX7_in cX7_in 3 (some .boolean), .methodLink RX7 122 yX7_billOf, .instanceMethod yX7_billOf, .selects RX7 yX7_billOf yX7_billOf, .code yX7_billOf cX7_billOf 3 (some .int), .methodLink RX7 45 yX7_at, .static yX7_at, .code yX7_at cX7_at 2 (some .int)] ++ wsX70)
def wsX7_turnsIn_r1 : List Cond := [Cond.fieldLink RX7 7 "EnergyDiscsModel" "s" "[J", Cond.methodLink RX7 95 yX7_isMeter, Cond.instanceMethod yX7_isMeter, Cond.selects RX7 yX7_isMeter yX7_isMeter, Cond.initialized RX7, Cond.code yX7_isMeter cX7_isMeter 2 (some .boolean), Cond.methodLink RX7 37 yX7_num, Cond.instanceMethod yX7_num, Cond.selects RX7 yX7_num yX7_num, Cond.code yX7_num cX7_num 2 (some .int), Cond.methodLink RX7 41 yX7_in, Cond.static yX7_in, Cond.code yX7_in cX7_in 3 (some .boolean), Cond.methodLink RX7 156 yX7_copies, Cond.instanceMethod yX7_copies, Cond.selects RX7 yX7_copies yX7_copies, Cond.code yX7_copies cX7_copies 2 none, Cond.methodLink RX7 83 yX7_passesOne, Cond.instanceMethod yX7_passesOne, Cond.selects RX7 yX7_passesOne yX7_passesOne, Cond.code yX7_passesOne cX7_passesOne 9 (some .int), Cond.constantLong RX7 68 (6000), Cond.constantLong RX7 81 (160), Cond.methodLink RX7 45 yX7_at]
def wsX7_turnsIn_r2 : List Cond := [Cond.static yX7_at, Cond.code yX7_at cX7_at 2 (some .int), Cond.methodLink RX7 70 yX7_power, Cond.instanceMethod yX7_power, Cond.selects RX7 yX7_power yX7_power, Cond.code yX7_power cX7_power 5 (some .int), Cond.methodLink RX7 56 yX7_isThrough, Cond.instanceMethod yX7_isThrough, Cond.selects RX7 yX7_isThrough yX7_isThrough, Cond.code yX7_isThrough cX7_isThrough 4 (some .boolean), Cond.methodLink RX7 53 yX7_its, Cond.instanceMethod yX7_its, Cond.selects RX7 yX7_its yX7_its, Cond.code yX7_its cX7_its 3 (some .int), Cond.methodLink RX7 73 yX7_goes, Cond.instanceMethod yX7_goes, Cond.selects RX7 yX7_goes yX7_goes, Cond.code yX7_goes cX7_goes 9 (some .long), Cond.constantLong RX7 66 (100), Cond.constantLong RX7 29 (2), Cond.methodLink RX7 77 yX7_isNight, Cond.static yX7_isNight, Cond.code yX7_isNight cX7_isNight 4 (some .boolean), Cond.constantLong RX7 60 (1440)]
def wsX7_turnsIn_r3 : List Cond := [Cond.constantLong RX7 62 (1320), Cond.constantLong RX7 64 (360)]
def wsX7_turnsIn : List Cond := .code yX7_turnsIn cX7_turnsIn 4 (some .int) :: ((wsX7_turnsIn_r1 ++ (wsX7_turnsIn_r2 ++ wsX7_turnsIn_r3)) ++ wsX70)
def wsX7_wouldTurn_r1 : List Cond := [Cond.fieldLink RX7 7 "EnergyDiscsModel" "s" "[J", Cond.methodLink RX7 95 yX7_isMeter, Cond.instanceMethod yX7_isMeter, Cond.selects RX7 yX7_isMeter yX7_isMeter, Cond.initialized RX7, Cond.code yX7_isMeter cX7_isMeter 2 (some .boolean), Cond.methodLink RX7 37 yX7_num, Cond.instanceMethod yX7_num, Cond.selects RX7 yX7_num yX7_num, Cond.code yX7_num cX7_num 2 (some .int), Cond.methodLink RX7 41 yX7_in, Cond.static yX7_in, Cond.code yX7_in cX7_in 3 (some .boolean), Cond.methodLink RX7 156 yX7_copies, Cond.instanceMethod yX7_copies, Cond.selects RX7 yX7_copies yX7_copies, Cond.code yX7_copies cX7_copies 2 none, Cond.methodLink RX7 45 yX7_at, Cond.static yX7_at, Cond.code yX7_at cX7_at 2 (some .int), Cond.methodLink RX7 83 yX7_passesOne, Cond.instanceMethod yX7_passesOne, Cond.selects RX7 yX7_passesOne yX7_passesOne, Cond.code yX7_passesOne cX7_passesOne 9 (some .int)]
def wsX7_wouldTurn_r2 : List Cond := [Cond.constantLong RX7 68 (6000), Cond.constantLong RX7 81 (160), Cond.methodLink RX7 70 yX7_power, Cond.instanceMethod yX7_power, Cond.selects RX7 yX7_power yX7_power, Cond.code yX7_power cX7_power 5 (some .int), Cond.methodLink RX7 56 yX7_isThrough, Cond.instanceMethod yX7_isThrough, Cond.selects RX7 yX7_isThrough yX7_isThrough, Cond.code yX7_isThrough cX7_isThrough 4 (some .boolean), Cond.methodLink RX7 53 yX7_its, Cond.instanceMethod yX7_its, Cond.selects RX7 yX7_its yX7_its, Cond.code yX7_its cX7_its 3 (some .int), Cond.methodLink RX7 73 yX7_goes, Cond.instanceMethod yX7_goes, Cond.selects RX7 yX7_goes yX7_goes, Cond.code yX7_goes cX7_goes 9 (some .long), Cond.constantLong RX7 66 (100), Cond.constantLong RX7 29 (2), Cond.methodLink RX7 77 yX7_isNight, Cond.static yX7_isNight, Cond.code yX7_isNight cX7_isNight 4 (some .boolean), Cond.constantLong RX7 60 (1440)]
def wsX7_wouldTurn_r3 : List Cond := [Cond.constantLong RX7 62 (1320), Cond.constantLong RX7 64 (360)]
def wsX7_wouldTurn : List Cond := .code yX7_wouldTurn cX7_wouldTurn 7 (some .int) :: ((wsX7_wouldTurn_r1 ++ (wsX7_wouldTurn_r2 ++ wsX7_wouldTurn_r3)) ++ wsX70)
def wsX7_worst_r1 : List Cond := [Cond.methodLink RX7 37 yX7_num, Cond.instanceMethod yX7_num, Cond.selects RX7 yX7_num yX7_num, Cond.initialized RX7, Cond.code yX7_num cX7_num 2 (some .int), Cond.fieldLink RX7 7 "EnergyDiscsModel" "s" "[J", Cond.methodLink RX7 159 yX7_misses, Cond.instanceMethod yX7_misses, Cond.selects RX7 yX7_misses yX7_misses, Cond.code yX7_misses cX7_misses 2 (some .long), Cond.constantLong RX7 99 (-1), Cond.constantLong RX7 68 (6000), Cond.constantLong RX7 151 (10000000000), Cond.methodLink RX7 95 yX7_isMeter, Cond.instanceMethod yX7_isMeter, Cond.selects RX7 yX7_isMeter yX7_isMeter, Cond.code yX7_isMeter cX7_isMeter 2 (some .boolean), Cond.methodLink RX7 41 yX7_in, Cond.static yX7_in, Cond.code yX7_in cX7_in 3 (some .boolean), Cond.methodLink RX7 45 yX7_at, Cond.static yX7_at, Cond.code yX7_at cX7_at 2 (some .int), Cond.methodLink RX7 148 yX7_turnsOf]
def wsX7_worst_r2 : List Cond := [Cond.instanceMethod yX7_turnsOf, Cond.selects RX7 yX7_turnsOf yX7_turnsOf, Cond.code yX7_turnsOf cX7_turnsOf 2 (some .int), Cond.methodLink RX7 53 yX7_its, Cond.instanceMethod yX7_its, Cond.selects RX7 yX7_its yX7_its, Cond.code yX7_its cX7_its 3 (some .int)]
def wsX7_worst : List Cond := .code yX7_worst cX7_worst 3 (some .int) :: ((wsX7_worst_r1 ++ wsX7_worst_r2) ++ wsX70)
def wsX7_lags_r1 : List Cond := [Cond.constant RX7 163 (10000000), Cond.methodLink RX7 95 yX7_isMeter, Cond.instanceMethod yX7_isMeter, Cond.selects RX7 yX7_isMeter yX7_isMeter, Cond.initialized RX7, Cond.code yX7_isMeter cX7_isMeter 2 (some .boolean), Cond.methodLink RX7 37 yX7_num, Cond.instanceMethod yX7_num, Cond.selects RX7 yX7_num yX7_num, Cond.code yX7_num cX7_num 2 (some .int), Cond.fieldLink RX7 7 "EnergyDiscsModel" "s" "[J", Cond.methodLink RX7 41 yX7_in, Cond.static yX7_in, Cond.code yX7_in cX7_in 3 (some .boolean), Cond.methodLink RX7 148 yX7_turnsOf, Cond.instanceMethod yX7_turnsOf, Cond.selects RX7 yX7_turnsOf yX7_turnsOf, Cond.code yX7_turnsOf cX7_turnsOf 2 (some .int), Cond.methodLink RX7 53 yX7_its, Cond.instanceMethod yX7_its, Cond.selects RX7 yX7_its yX7_its, Cond.code yX7_its cX7_its 3 (some .int), Cond.methodLink RX7 45 yX7_at, Cond.static yX7_at]
def wsX7_lags_r2 : List Cond := [Cond.code yX7_at cX7_at 2 (some .int)]
def wsX7_lags : List Cond := .code yX7_lags cX7_lags 4 (some .int) :: ((wsX7_lags_r1 ++ wsX7_lags_r2) ++ wsX70)
def wsX7_put : List Cond := .code yX7_put cX7_put 8 (some .int) :: ([.constantLong RX7 164 (255), .fieldLink RX7 135 "EnergyDiscsModel" "length" "I", .methodLink RX7 41 yX7_in, .static yX7_in, .initialized RX7, .code yX7_in cX7_in 3 (some .boolean), .methodLink RX7 138 yX7_types, .instanceMethod yX7_types, .selects RX7 yX7_types yX7_types, .code yX7_types cX7_types 2 none, .fieldLink RX7 23 "EnergyDiscsModel" "pad" "[I"] ++ wsX70)
def wsX7_wipe : List Cond := .code yX7_wipe cX7_wipe 2 (some .int) :: ([.fieldLink RX7 135 "EnergyDiscsModel" "length" "I"] ++ wsX70)
def wsX7_digit : List Cond := .code yX7_digit cX7_digit 2 (some .int) :: ([.fieldLink RX7 135 "EnergyDiscsModel" "length" "I", .fieldLink RX7 23 "EnergyDiscsModel" "pad" "[I", .methodLink RX7 41 yX7_in, .static yX7_in, .initialized RX7, .code yX7_in cX7_in 3 (some .boolean)] ++ wsX70)
def wsX7_code : List Cond := .code yX7_code cX7_code 2 (some .int) :: ([.fieldLink RX7 135 "EnergyDiscsModel" "length" "I", .fieldLink RX7 23 "EnergyDiscsModel" "pad" "[I"] ++ wsX70)
def wsX7_numberEnd : List Cond := .code yX7_numberEnd cX7_numberEnd 3 (some .int) :: ([.methodLink RX7 166 yX7_digit, .instanceMethod yX7_digit, .selects RX7 yX7_digit yX7_digit, .initialized RX7, .code yX7_digit cX7_digit 2 (some .int), .fieldLink RX7 135 "EnergyDiscsModel" "length" "I", .fieldLink RX7 23 "EnergyDiscsModel" "pad" "[I", .methodLink RX7 41 yX7_in, .static yX7_in, .code yX7_in cX7_in 3 (some .boolean)] ++ wsX70)
def wsX7_numberAt : List Cond := .code yX7_numberAt cX7_numberAt 4 (some .int) :: ([.methodLink RX7 169 yX7_numberEnd, .instanceMethod yX7_numberEnd, .selects RX7 yX7_numberEnd yX7_numberEnd, .initialized RX7, .code yX7_numberEnd cX7_numberEnd 3 (some .int), .methodLink RX7 166 yX7_digit, .instanceMethod yX7_digit, .selects RX7 yX7_digit yX7_digit, .code yX7_digit cX7_digit 2 (some .int), .fieldLink RX7 135 "EnergyDiscsModel" "length" "I", .fieldLink RX7 23 "EnergyDiscsModel" "pad" "[I", .methodLink RX7 41 yX7_in, .static yX7_in, .code yX7_in cX7_in 3 (some .boolean)] ++ wsX70)
def wsX7_orderEnd : List Cond := .code yX7_orderEnd cX7_orderEnd 2 (some .int) :: ([.methodLink RX7 172 yX7_code, .instanceMethod yX7_code, .selects RX7 yX7_code yX7_code, .initialized RX7, .code yX7_code cX7_code 2 (some .int), .fieldLink RX7 135 "EnergyDiscsModel" "length" "I", .fieldLink RX7 23 "EnergyDiscsModel" "pad" "[I", .methodLink RX7 166 yX7_digit, .instanceMethod yX7_digit, .selects RX7 yX7_digit yX7_digit, .code yX7_digit cX7_digit 2 (some .int), .methodLink RX7 41 yX7_in, .static yX7_in, .code yX7_in cX7_in 3 (some .boolean), .methodLink RX7 169 yX7_numberEnd, .instanceMethod yX7_numberEnd, .selects RX7 yX7_numberEnd yX7_numberEnd, .code yX7_numberEnd cX7_numberEnd 3 (some .int)] ++ wsX70)
def wsX7_fault : List Cond := .code yX7_fault cX7_fault 4 (some .int) :: ([.fieldLink RX7 135 "EnergyDiscsModel" "length" "I", .methodLink RX7 175 yX7_orderEnd, .instanceMethod yX7_orderEnd, .selects RX7 yX7_orderEnd yX7_orderEnd, .initialized RX7, .code yX7_orderEnd cX7_orderEnd 2 (some .int), .methodLink RX7 172 yX7_code, .instanceMethod yX7_code, .selects RX7 yX7_code yX7_code, .code yX7_code cX7_code 2 (some .int), .fieldLink RX7 23 "EnergyDiscsModel" "pad" "[I", .methodLink RX7 166 yX7_digit, .instanceMethod yX7_digit, .selects RX7 yX7_digit yX7_digit, .code yX7_digit cX7_digit 2 (some .int), .methodLink RX7 41 yX7_in, .static yX7_in, .code yX7_in cX7_in 3 (some .boolean), .methodLink RX7 169 yX7_numberEnd, .instanceMethod yX7_numberEnd, .selects RX7 yX7_numberEnd yX7_numberEnd, .code yX7_numberEnd cX7_numberEnd 3 (some .int)] ++ wsX70)
def wsX7_whyNot_r1 : List Cond := [Cond.methodLink RX7 166 yX7_digit, Cond.instanceMethod yX7_digit, Cond.selects RX7 yX7_digit yX7_digit, Cond.initialized RX7, Cond.code yX7_digit cX7_digit 2 (some .int), Cond.fieldLink RX7 135 "EnergyDiscsModel" "length" "I", Cond.fieldLink RX7 23 "EnergyDiscsModel" "pad" "[I", Cond.methodLink RX7 41 yX7_in, Cond.static yX7_in, Cond.code yX7_in cX7_in 3 (some .boolean), Cond.methodLink RX7 172 yX7_code, Cond.instanceMethod yX7_code, Cond.selects RX7 yX7_code yX7_code, Cond.code yX7_code cX7_code 2 (some .int), Cond.methodLink RX7 101 yX7_whyNotMeter, Cond.instanceMethod yX7_whyNotMeter, Cond.selects RX7 yX7_whyNotMeter yX7_whyNotMeter, Cond.code yX7_whyNotMeter cX7_whyNotMeter 2 (some .int), Cond.methodLink RX7 37 yX7_num, Cond.instanceMethod yX7_num, Cond.selects RX7 yX7_num yX7_num, Cond.code yX7_num cX7_num 2 (some .int), Cond.fieldLink RX7 7 "EnergyDiscsModel" "s" "[J", Cond.methodLink RX7 95 yX7_isMeter]
def wsX7_whyNot_r2 : List Cond := [Cond.instanceMethod yX7_isMeter, Cond.selects RX7 yX7_isMeter yX7_isMeter, Cond.code yX7_isMeter cX7_isMeter 2 (some .boolean), Cond.methodLink RX7 178 yX7_numberAt, Cond.instanceMethod yX7_numberAt, Cond.selects RX7 yX7_numberAt yX7_numberAt, Cond.code yX7_numberAt cX7_numberAt 4 (some .int), Cond.methodLink RX7 169 yX7_numberEnd, Cond.instanceMethod yX7_numberEnd, Cond.selects RX7 yX7_numberEnd yX7_numberEnd, Cond.code yX7_numberEnd cX7_numberEnd 3 (some .int), Cond.methodLink RX7 107 yX7_whyNotLoad, Cond.instanceMethod yX7_whyNotLoad, Cond.selects RX7 yX7_whyNotLoad yX7_whyNotLoad, Cond.code yX7_whyNotLoad cX7_whyNotLoad 3 (some .int), Cond.methodLink RX7 113 yX7_isLoad, Cond.instanceMethod yX7_isLoad, Cond.selects RX7 yX7_isLoad yX7_isLoad, Cond.code yX7_isLoad cX7_isLoad 2 (some .boolean), Cond.methodLink RX7 129 yX7_whyNotPass, Cond.instanceMethod yX7_whyNotPass, Cond.selects RX7 yX7_whyNotPass yX7_whyNotPass, Cond.code yX7_whyNotPass cX7_whyNotPass 2 (some .int), Cond.constant RX7 128 (99999)]
def wsX7_whyNot_r3 : List Cond := [Cond.methodLink RX7 119 yX7_whyNotTamper, Cond.instanceMethod yX7_whyNotTamper, Cond.selects RX7 yX7_whyNotTamper yX7_whyNotTamper, Cond.code yX7_whyNotTamper cX7_whyNotTamper 2 (some .int), Cond.methodLink RX7 53 yX7_its, Cond.instanceMethod yX7_its, Cond.selects RX7 yX7_its yX7_its, Cond.code yX7_its cX7_its 3 (some .int), Cond.methodLink RX7 45 yX7_at, Cond.static yX7_at, Cond.code yX7_at cX7_at 2 (some .int)]
def wsX7_whyNot : List Cond := .code yX7_whyNot cX7_whyNot 3 (some .int) :: ((wsX7_whyNot_r1 ++ (wsX7_whyNot_r2 ++ wsX7_whyNot_r3)) ++ wsX70)
def wsX7_does_r1 : List Cond := [Cond.fieldLink RX7 7 "EnergyDiscsModel" "s" "[J", Cond.methodLink RX7 166 yX7_digit, Cond.instanceMethod yX7_digit, Cond.selects RX7 yX7_digit yX7_digit, Cond.initialized RX7, Cond.code yX7_digit cX7_digit 2 (some .int), Cond.fieldLink RX7 135 "EnergyDiscsModel" "length" "I", Cond.fieldLink RX7 23 "EnergyDiscsModel" "pad" "[I", Cond.methodLink RX7 41 yX7_in, Cond.static yX7_in, Cond.code yX7_in cX7_in 3 (some .boolean), Cond.methodLink RX7 172 yX7_code, Cond.instanceMethod yX7_code, Cond.selects RX7 yX7_code yX7_code, Cond.code yX7_code cX7_code 2 (some .int), Cond.methodLink RX7 104 yX7_comes, Cond.instanceMethod yX7_comes, Cond.selects RX7 yX7_comes yX7_comes, Cond.code yX7_comes cX7_comes 4 (some .int), Cond.constantLong RX7 99 (-1), Cond.constantLong RX7 66 (100), Cond.methodLink RX7 37 yX7_num, Cond.instanceMethod yX7_num, Cond.selects RX7 yX7_num yX7_num]
def wsX7_does_r2 : List Cond := [Cond.code yX7_num cX7_num 2 (some .int), Cond.methodLink RX7 45 yX7_at, Cond.static yX7_at, Cond.code yX7_at cX7_at 2 (some .int), Cond.methodLink RX7 178 yX7_numberAt, Cond.instanceMethod yX7_numberAt, Cond.selects RX7 yX7_numberAt yX7_numberAt, Cond.code yX7_numberAt cX7_numberAt 4 (some .int), Cond.methodLink RX7 169 yX7_numberEnd, Cond.instanceMethod yX7_numberEnd, Cond.selects RX7 yX7_numberEnd yX7_numberEnd, Cond.code yX7_numberEnd cX7_numberEnd 3 (some .int), Cond.methodLink RX7 110 yX7_loads, Cond.instanceMethod yX7_loads, Cond.selects RX7 yX7_loads yX7_loads, Cond.code yX7_loads cX7_loads 4 (some .int), Cond.methodLink RX7 116 yX7_turns, Cond.instanceMethod yX7_turns, Cond.selects RX7 yX7_turns yX7_turns, Cond.code yX7_turns cX7_turns 3 (some .int), Cond.methodLink RX7 132 yX7_passes, Cond.instanceMethod yX7_passes, Cond.selects RX7 yX7_passes yX7_passes, Cond.code yX7_passes cX7_passes 6 (some .int)]
def wsX7_does_r3 : List Cond := [Cond.methodLink RX7 83 yX7_passesOne, Cond.instanceMethod yX7_passesOne, Cond.selects RX7 yX7_passesOne yX7_passesOne, Cond.code yX7_passesOne cX7_passesOne 9 (some .int), Cond.constantLong RX7 68 (6000), Cond.constantLong RX7 81 (160), Cond.methodLink RX7 70 yX7_power, Cond.instanceMethod yX7_power, Cond.selects RX7 yX7_power yX7_power, Cond.code yX7_power cX7_power 5 (some .int), Cond.methodLink RX7 56 yX7_isThrough, Cond.instanceMethod yX7_isThrough, Cond.selects RX7 yX7_isThrough yX7_isThrough, Cond.code yX7_isThrough cX7_isThrough 4 (some .boolean), Cond.methodLink RX7 53 yX7_its, Cond.instanceMethod yX7_its, Cond.selects RX7 yX7_its yX7_its, Cond.code yX7_its cX7_its 3 (some .int), Cond.methodLink RX7 73 yX7_goes, Cond.instanceMethod yX7_goes, Cond.selects RX7 yX7_goes yX7_goes, Cond.code yX7_goes cX7_goes 9 (some .long), Cond.constantLong RX7 29 (2), Cond.methodLink RX7 77 yX7_isNight]
def wsX7_does_r4 : List Cond := [Cond.static yX7_isNight, Cond.code yX7_isNight cX7_isNight 4 (some .boolean), Cond.constantLong RX7 60 (1440), Cond.constantLong RX7 62 (1320), Cond.constantLong RX7 64 (360), Cond.methodLink RX7 125 yX7_visits, Cond.instanceMethod yX7_visits, Cond.selects RX7 yX7_visits yX7_visits, Cond.code yX7_visits cX7_visits 4 (some .int), Cond.methodLink RX7 122 yX7_billOf, Cond.instanceMethod yX7_billOf, Cond.selects RX7 yX7_billOf yX7_billOf, Cond.code yX7_billOf cX7_billOf 3 (some .int)]
def wsX7_does : List Cond := .code yX7_does cX7_does 3 (some .int) :: ((wsX7_does_r1 ++ (wsX7_does_r2 ++ (wsX7_does_r3 ++ wsX7_does_r4))) ++ wsX70)
def wsX7_carryOut_r1 : List Cond := [Cond.fieldLink RX7 135 "EnergyDiscsModel" "length" "I", Cond.methodLink RX7 181 yX7_fault, Cond.instanceMethod yX7_fault, Cond.selects RX7 yX7_fault yX7_fault, Cond.initialized RX7, Cond.code yX7_fault cX7_fault 4 (some .int), Cond.methodLink RX7 175 yX7_orderEnd, Cond.instanceMethod yX7_orderEnd, Cond.selects RX7 yX7_orderEnd yX7_orderEnd, Cond.code yX7_orderEnd cX7_orderEnd 2 (some .int), Cond.methodLink RX7 172 yX7_code, Cond.instanceMethod yX7_code, Cond.selects RX7 yX7_code yX7_code, Cond.code yX7_code cX7_code 2 (some .int), Cond.fieldLink RX7 23 "EnergyDiscsModel" "pad" "[I", Cond.methodLink RX7 166 yX7_digit, Cond.instanceMethod yX7_digit, Cond.selects RX7 yX7_digit yX7_digit, Cond.code yX7_digit cX7_digit 2 (some .int), Cond.methodLink RX7 41 yX7_in, Cond.static yX7_in, Cond.code yX7_in cX7_in 3 (some .boolean), Cond.methodLink RX7 169 yX7_numberEnd, Cond.instanceMethod yX7_numberEnd]
def wsX7_carryOut_r2 : List Cond := [Cond.selects RX7 yX7_numberEnd yX7_numberEnd, Cond.code yX7_numberEnd cX7_numberEnd 3 (some .int), Cond.methodLink RX7 92 yX7_remembers, Cond.instanceMethod yX7_remembers, Cond.selects RX7 yX7_remembers yX7_remembers, Cond.code yX7_remembers cX7_remembers 2 none, Cond.fieldLink RX7 49 "EnergyDiscsModel" "known" "I", Cond.fieldLink RX7 13 "EnergyDiscsModel" "past" "[J", Cond.fieldLink RX7 7 "EnergyDiscsModel" "s" "[J", Cond.methodLink RX7 185 yX7_whyNot, Cond.instanceMethod yX7_whyNot, Cond.selects RX7 yX7_whyNot yX7_whyNot, Cond.code yX7_whyNot cX7_whyNot 3 (some .int), Cond.methodLink RX7 101 yX7_whyNotMeter, Cond.instanceMethod yX7_whyNotMeter, Cond.selects RX7 yX7_whyNotMeter yX7_whyNotMeter, Cond.code yX7_whyNotMeter cX7_whyNotMeter 2 (some .int), Cond.methodLink RX7 37 yX7_num, Cond.instanceMethod yX7_num, Cond.selects RX7 yX7_num yX7_num, Cond.code yX7_num cX7_num 2 (some .int), Cond.methodLink RX7 95 yX7_isMeter, Cond.instanceMethod yX7_isMeter, Cond.selects RX7 yX7_isMeter yX7_isMeter]
def wsX7_carryOut_r3 : List Cond := [Cond.code yX7_isMeter cX7_isMeter 2 (some .boolean), Cond.methodLink RX7 178 yX7_numberAt, Cond.instanceMethod yX7_numberAt, Cond.selects RX7 yX7_numberAt yX7_numberAt, Cond.code yX7_numberAt cX7_numberAt 4 (some .int), Cond.methodLink RX7 107 yX7_whyNotLoad, Cond.instanceMethod yX7_whyNotLoad, Cond.selects RX7 yX7_whyNotLoad yX7_whyNotLoad, Cond.code yX7_whyNotLoad cX7_whyNotLoad 3 (some .int), Cond.methodLink RX7 113 yX7_isLoad, Cond.instanceMethod yX7_isLoad, Cond.selects RX7 yX7_isLoad yX7_isLoad, Cond.code yX7_isLoad cX7_isLoad 2 (some .boolean), Cond.methodLink RX7 129 yX7_whyNotPass, Cond.instanceMethod yX7_whyNotPass, Cond.selects RX7 yX7_whyNotPass yX7_whyNotPass, Cond.code yX7_whyNotPass cX7_whyNotPass 2 (some .int), Cond.constant RX7 128 (99999), Cond.methodLink RX7 119 yX7_whyNotTamper, Cond.instanceMethod yX7_whyNotTamper, Cond.selects RX7 yX7_whyNotTamper yX7_whyNotTamper, Cond.code yX7_whyNotTamper cX7_whyNotTamper 2 (some .int), Cond.methodLink RX7 53 yX7_its, Cond.instanceMethod yX7_its]
def wsX7_carryOut_r4 : List Cond := [Cond.selects RX7 yX7_its yX7_its, Cond.code yX7_its cX7_its 3 (some .int), Cond.methodLink RX7 45 yX7_at, Cond.static yX7_at, Cond.code yX7_at cX7_at 2 (some .int), Cond.methodLink RX7 188 yX7_does, Cond.instanceMethod yX7_does, Cond.selects RX7 yX7_does yX7_does, Cond.code yX7_does cX7_does 3 (some .int), Cond.methodLink RX7 104 yX7_comes, Cond.instanceMethod yX7_comes, Cond.selects RX7 yX7_comes yX7_comes, Cond.code yX7_comes cX7_comes 4 (some .int), Cond.constantLong RX7 99 (-1), Cond.constantLong RX7 66 (100), Cond.methodLink RX7 110 yX7_loads, Cond.instanceMethod yX7_loads, Cond.selects RX7 yX7_loads yX7_loads, Cond.code yX7_loads cX7_loads 4 (some .int), Cond.methodLink RX7 116 yX7_turns, Cond.instanceMethod yX7_turns, Cond.selects RX7 yX7_turns yX7_turns, Cond.code yX7_turns cX7_turns 3 (some .int), Cond.methodLink RX7 132 yX7_passes]
def wsX7_carryOut_r5 : List Cond := [Cond.instanceMethod yX7_passes, Cond.selects RX7 yX7_passes yX7_passes, Cond.code yX7_passes cX7_passes 6 (some .int), Cond.methodLink RX7 83 yX7_passesOne, Cond.instanceMethod yX7_passesOne, Cond.selects RX7 yX7_passesOne yX7_passesOne, Cond.code yX7_passesOne cX7_passesOne 9 (some .int), Cond.constantLong RX7 68 (6000), Cond.constantLong RX7 81 (160), Cond.methodLink RX7 70 yX7_power, Cond.instanceMethod yX7_power, Cond.selects RX7 yX7_power yX7_power, Cond.code yX7_power cX7_power 5 (some .int), Cond.methodLink RX7 56 yX7_isThrough, Cond.instanceMethod yX7_isThrough, Cond.selects RX7 yX7_isThrough yX7_isThrough, Cond.code yX7_isThrough cX7_isThrough 4 (some .boolean), Cond.methodLink RX7 73 yX7_goes, Cond.instanceMethod yX7_goes, Cond.selects RX7 yX7_goes yX7_goes, Cond.code yX7_goes cX7_goes 9 (some .long), Cond.constantLong RX7 29 (2), Cond.methodLink RX7 77 yX7_isNight, Cond.static yX7_isNight]
def wsX7_carryOut_r6 : List Cond := [Cond.code yX7_isNight cX7_isNight 4 (some .boolean), Cond.constantLong RX7 60 (1440), Cond.constantLong RX7 62 (1320), Cond.constantLong RX7 64 (360), Cond.methodLink RX7 125 yX7_visits, Cond.instanceMethod yX7_visits, Cond.selects RX7 yX7_visits yX7_visits, Cond.code yX7_visits cX7_visits 4 (some .int), Cond.methodLink RX7 122 yX7_billOf, Cond.instanceMethod yX7_billOf, Cond.selects RX7 yX7_billOf yX7_billOf, Cond.code yX7_billOf cX7_billOf 3 (some .int)]
def wsX7_carryOut : List Cond := .code yX7_carryOut cX7_carryOut 4 (some .int) :: ((wsX7_carryOut_r1 ++ (wsX7_carryOut_r2 ++ (wsX7_carryOut_r3 ++ (wsX7_carryOut_r4 ++ (wsX7_carryOut_r5 ++ wsX7_carryOut_r6))))) ++ wsX70)
def wsX7_undo : List Cond := .code yX7_undo cX7_undo 2 (some .int) :: ([.fieldLink RX7 49 "EnergyDiscsModel" "known" "I", .fieldLink RX7 7 "EnergyDiscsModel" "s" "[J", .fieldLink RX7 13 "EnergyDiscsModel" "past" "[J"] ++ wsX70)
def wsX7_save : List Cond := .code yX7_save cX7_save 3 (some .int) :: ([.fieldLink RX7 16 "EnergyDiscsModel" "slots" "[J", .fieldLink RX7 7 "EnergyDiscsModel" "s" "[J", .fieldLink RX7 19 "EnergyDiscsModel" "isSaved" "[Z", .methodLink RX7 41 yX7_in, .static yX7_in, .initialized RX7, .code yX7_in cX7_in 3 (some .boolean), .methodLink RX7 37 yX7_num, .instanceMethod yX7_num, .selects RX7 yX7_num yX7_num, .code yX7_num cX7_num 2 (some .int)] ++ wsX70)
def wsX7_restore : List Cond := .code yX7_restore cX7_restore 3 (some .int) :: ([.fieldLink RX7 19 "EnergyDiscsModel" "isSaved" "[Z", .fieldLink RX7 7 "EnergyDiscsModel" "s" "[J", .fieldLink RX7 16 "EnergyDiscsModel" "slots" "[J", .methodLink RX7 41 yX7_in, .static yX7_in, .initialized RX7, .code yX7_in cX7_in 3 (some .boolean), .methodLink RX7 92 yX7_remembers, .instanceMethod yX7_remembers, .selects RX7 yX7_remembers yX7_remembers, .code yX7_remembers cX7_remembers 2 none, .fieldLink RX7 49 "EnergyDiscsModel" "known" "I", .fieldLink RX7 13 "EnergyDiscsModel" "past" "[J", .methodLink RX7 37 yX7_num, .instanceMethod yX7_num, .selects RX7 yX7_num yX7_num, .code yX7_num cX7_num 2 (some .int)] ++ wsX70)
def wsJ9_max_7cf53 : List Cond := .code yJ9_max_7cf53 cJ9_max_7cf53 2 (some .int) :: ([])
def wsJ9_min_7cf53 : List Cond := .code yJ9_min_7cf53 cJ9_min_7cf53 2 (some .int) :: ([])
def wsL_law_r1 : List Cond := [Cond.classLink RL 7 RX6, Cond.instantiable RX6 6, Cond.initialized RX6, Cond.classLink RL 10 RX7, Cond.instantiable RX7 7, Cond.initialized RX7, Cond.constantLong RL 94 (4294967295), Cond.methodLink RL 9 yX6_init, Cond.instanceMethod yX6_init, Cond.code yX6_init cX6_init 2 none, Cond.methodLink RX6 1 objectInit, Cond.instanceMethod objectInit, Cond.code objectInit ⟨#[0xb1]⟩ 1 none, Cond.classLink RX6 7 RX2, Cond.instantiable RX2 7, Cond.initialized RX2, Cond.fieldLink RX6 10 "EnergyDiscs" "house" "LEnergyDiscs$House;", Cond.classLink RX6 16 RX4, Cond.instantiable RX4 13, Cond.initialized RX4, Cond.fieldLink RX6 19 "EnergyDiscs" "probe" "LEnergyDiscs$Meter;", Cond.classLink RX6 23 RX5, Cond.instantiable RX5 2, Cond.initialized RX5]
def wsL_law_r2 : List Cond := [Cond.fieldLink RX6 26 "EnergyDiscs" "pad" "LEnergyDiscs$Pad;", Cond.classLink RX6 30 RX1, Cond.instantiable RX1 3, Cond.initialized RX1, Cond.fieldLink RX6 33 "EnergyDiscs" "history" "LEnergyDiscs$History;", Cond.fieldLink RX6 37 "EnergyDiscs" "slots" "[LEnergyDiscs$House;", Cond.arrayClass .boolean, Cond.fieldLink RX6 41 "EnergyDiscs" "slotsUsed" "[Z", Cond.methodLink RX6 9 yX2_init, Cond.instanceMethod yX2_init, Cond.code yX2_init cX2_init 2 none, Cond.methodLink RX2 3 objectInit, Cond.arrayClass .int, Cond.fieldLink RX2 9 "EnergyDiscs$House" "settings" "[I", Cond.classLink RX2 15 RX4, Cond.fieldLink RX2 17 "EnergyDiscs$House" "meters" "[LEnergyDiscs$Meter;", Cond.classLink RX2 21 RX3, Cond.fieldLink RX2 23 "EnergyDiscs$House" "loads" "[LEnergyDiscs$Load;", Cond.instantiable RX3 3, Cond.initialized RX3, Cond.methodLink RX2 30 yX4_init, Cond.instanceMethod yX4_init, Cond.code yX4_init cX4_init 1 none, Cond.methodLink RX4 3 objectInit]
def wsL_law_r3 : List Cond := [Cond.methodLink RX4 9 yX4_begin, Cond.instanceMethod yX4_begin, Cond.selects RX4 yX4_begin yX4_begin, Cond.code yX4_begin cX4_begin 3 none, Cond.fieldLink RX4 15 "EnergyDiscs$Meter" "through" "I", Cond.fieldLink RX4 19 "EnergyDiscs$Meter" "place" "I", Cond.fieldLink RX4 22 "EnergyDiscs$Meter" "speed" "I", Cond.fieldLink RX4 25 "EnergyDiscs$Meter" "age" "I", Cond.fieldLink RX4 28 "EnergyDiscs$Meter" "dayTurns" "I", Cond.fieldLink RX4 31 "EnergyDiscs$Meter" "nightTurns" "I", Cond.fieldLink RX4 34 "EnergyDiscs$Meter" "billedDayTurns" "I", Cond.fieldLink RX4 37 "EnergyDiscs$Meter" "billedNightTurns" "I", Cond.fieldLink RX4 40 "EnergyDiscs$Meter" "flowed" "J", Cond.fieldLink RX4 44 "EnergyDiscs$Meter" "seal" "I", Cond.fieldLink RX4 47 "EnergyDiscs$Meter" "broken" "Z", Cond.fieldLink RX4 51 "EnergyDiscs$Meter" "billed" "I", Cond.fieldLink RX4 54 "EnergyDiscs$Meter" "visits" "I", Cond.methodLink RX2 31 yX3_init, Cond.instanceMethod yX3_init, Cond.code yX3_init cX3_init 1 none, Cond.methodLink RX3 1 objectInit, Cond.methodLink RX3 7 yX3_begin, Cond.instanceMethod yX3_begin, Cond.selects RX3 yX3_begin yX3_begin]
def wsL_law_r4 : List Cond := [Cond.code yX3_begin cX3_begin 3 none, Cond.fieldLink RX3 13 "EnergyDiscs$Load" "behind" "I", Cond.fieldLink RX3 17 "EnergyDiscs$Load" "power" "I", Cond.fieldLink RX3 20 "EnergyDiscs$Load" "on" "Z", Cond.methodLink RX6 18 yX4_init, Cond.methodLink RX6 25 yX5_init, Cond.instanceMethod yX5_init, Cond.code yX5_init cX5_init 1 none, Cond.methodLink RX5 3 objectInit, Cond.arrayClass .char, Cond.fieldLink RX5 9 "EnergyDiscs$Pad" "signs" "[C", Cond.fieldLink RX5 15 "EnergyDiscs$Pad" "length" "I", Cond.methodLink RX6 32 yX1_init, Cond.instanceMethod yX1_init, Cond.code yX1_init cX1_init 2 none, Cond.methodLink RX1 3 objectInit, Cond.classLink RX1 11 RX2, Cond.fieldLink RX1 13 "EnergyDiscs$History" "states" "[LEnergyDiscs$House;", Cond.fieldLink RX1 18 "EnergyDiscs$History" "free" "I", Cond.fieldLink RX1 22 "EnergyDiscs$History" "kept" "I", Cond.methodLink RX1 17 yX2_init, Cond.methodLink RL 12 yX7_init, Cond.instanceMethod yX7_init, Cond.code yX7_init cX7_init 1 none]
def wsL_law_r5 : List Cond := [Cond.methodLink RX7 1 objectInit, Cond.arrayClass .long, Cond.fieldLink RX7 7 "EnergyDiscsModel" "s" "[J", Cond.fieldLink RX7 13 "EnergyDiscsModel" "past" "[J", Cond.fieldLink RX7 16 "EnergyDiscsModel" "slots" "[J", Cond.fieldLink RX7 19 "EnergyDiscsModel" "isSaved" "[Z", Cond.fieldLink RX7 23 "EnergyDiscsModel" "pad" "[I", Cond.constantLong RX7 27 (15), Cond.constantLong RX7 29 (2), Cond.constantLong RX7 31 (1000), Cond.constantLong RX7 33 (9), Cond.constantLong RX7 35 (5), Cond.methodLink RL 13 yX6_set, Cond.instanceMethod yX6_set, Cond.selects RX6 yX6_set yX6_set, Cond.code yX6_set cX6_set 3 (some .int), Cond.methodLink RX6 45 yX1_prepare, Cond.instanceMethod yX1_prepare, Cond.selects RX1 yX1_prepare yX1_prepare, Cond.code yX1_prepare cX1_prepare 2 none, Cond.methodLink RX1 25 yX2_copyFrom, Cond.instanceMethod yX2_copyFrom, Cond.selects RX2 yX2_copyFrom yX2_copyFrom, Cond.code yX2_copyFrom cX2_copyFrom 3 none]
def wsL_law_r6 : List Cond := [Cond.fieldLink RX2 32 "EnergyDiscs$House" "meterCount" "I", Cond.fieldLink RX2 40 "EnergyDiscs$House" "loadCount" "I", Cond.fieldLink RX2 46 "EnergyDiscs$House" "time" "I", Cond.fieldLink RX2 49 "EnergyDiscs$House" "greatestSeal" "I", Cond.methodLink RX2 36 yX4_copyFrom, Cond.instanceMethod yX4_copyFrom, Cond.selects RX4 yX4_copyFrom yX4_copyFrom, Cond.code yX4_copyFrom cX4_copyFrom 2 none, Cond.methodLink RX2 43 yX3_copyFrom, Cond.instanceMethod yX3_copyFrom, Cond.selects RX3 yX3_copyFrom yX3_copyFrom, Cond.code yX3_copyFrom cX3_copyFrom 2 none, Cond.methodLink RX6 49 yX2_changeSetting, Cond.instanceMethod yX2_changeSetting, Cond.selects RX2 yX2_changeSetting yX2_changeSetting, Cond.code yX2_changeSetting cX2_changeSetting 4 (some .int), Cond.methodLink RX6 53 yX1_settle, Cond.instanceMethod yX1_settle, Cond.selects RX1 yX1_settle yX1_settle, Cond.code yX1_settle cX1_settle 2 (some .int), Cond.methodLink RX1 29 Lib.Math.min.name, Cond.static Lib.Math.min.name, Cond.initialized "java/lang/Math", Cond.code Lib.Math.min.name Lib.Math.min.code 2 (some .int)]
def wsL_law_r7 : List Cond := [Cond.methodLink RL 17 yX7_set, Cond.instanceMethod yX7_set, Cond.selects RX7 yX7_set yX7_set, Cond.code yX7_set cX7_set 4 (some .int), Cond.methodLink RX7 41 yX7_in, Cond.static yX7_in, Cond.code yX7_in cX7_in 3 (some .boolean), Cond.methodLink RX7 86 yX7_lowOf, Cond.static yX7_lowOf, Cond.code yX7_lowOf cX7_lowOf 1 (some .int), Cond.methodLink RX7 89 yX7_highOf, Cond.static yX7_highOf, Cond.code yX7_highOf cX7_highOf 1 (some .int), Cond.methodLink RX7 92 yX7_remembers, Cond.instanceMethod yX7_remembers, Cond.selects RX7 yX7_remembers yX7_remembers, Cond.code yX7_remembers cX7_remembers 2 none, Cond.fieldLink RX7 49 "EnergyDiscsModel" "known" "I", Cond.methodLink RX7 37 yX7_num, Cond.instanceMethod yX7_num, Cond.selects RX7 yX7_num yX7_num, Cond.code yX7_num cX7_num 2 (some .int), Cond.methodLink RL 18 yX6_meter, Cond.instanceMethod yX6_meter]
def wsL_law_r8 : List Cond := [Cond.selects RX6 yX6_meter yX6_meter, Cond.code yX6_meter cX6_meter 2 (some .int), Cond.methodLink RX6 57 yX2_addMeter, Cond.instanceMethod yX2_addMeter, Cond.selects RX2 yX2_addMeter yX2_addMeter, Cond.code yX2_addMeter cX2_addMeter 2 (some .int), Cond.methodLink RX2 58 yX2_meterAt, Cond.instanceMethod yX2_meterAt, Cond.selects RX2 yX2_meterAt yX2_meterAt, Cond.code yX2_meterAt cX2_meterAt 2 (some (.object "EnergyDiscs$Meter")), Cond.methodLink RX2 62 yX4_begin, Cond.methodLink RL 22 yX7_meter, Cond.instanceMethod yX7_meter, Cond.selects RX7 yX7_meter yX7_meter, Cond.code yX7_meter cX7_meter 3 (some .int), Cond.methodLink RX7 101 yX7_whyNotMeter, Cond.instanceMethod yX7_whyNotMeter, Cond.selects RX7 yX7_whyNotMeter yX7_whyNotMeter, Cond.code yX7_whyNotMeter cX7_whyNotMeter 2 (some .int), Cond.methodLink RX7 95 yX7_isMeter, Cond.instanceMethod yX7_isMeter, Cond.selects RX7 yX7_isMeter yX7_isMeter, Cond.code yX7_isMeter cX7_isMeter 2 (some .boolean), Cond.methodLink RX7 104 yX7_comes]
def wsL_law_r9 : List Cond := [Cond.instanceMethod yX7_comes, Cond.selects RX7 yX7_comes yX7_comes, Cond.code yX7_comes cX7_comes 4 (some .int), Cond.constantLong RX7 99 (-1), Cond.constantLong RX7 66 (100), Cond.methodLink RX7 45 yX7_at, Cond.static yX7_at, Cond.code yX7_at cX7_at 2 (some .int), Cond.methodLink RL 23 yX6_load, Cond.instanceMethod yX6_load, Cond.selects RX6 yX6_load yX6_load, Cond.code yX6_load cX6_load 3 (some .int), Cond.methodLink RX6 60 yX2_addLoad, Cond.instanceMethod yX2_addLoad, Cond.selects RX2 yX2_addLoad yX2_addLoad, Cond.code yX2_addLoad cX2_addLoad 3 (some .int), Cond.methodLink RX2 66 yX3_begin, Cond.methodLink RL 26 yX7_load, Cond.instanceMethod yX7_load, Cond.selects RX7 yX7_load yX7_load, Cond.code yX7_load cX7_load 4 (some .int), Cond.methodLink RX7 107 yX7_whyNotLoad, Cond.instanceMethod yX7_whyNotLoad, Cond.selects RX7 yX7_whyNotLoad yX7_whyNotLoad]
def wsL_law_r10 : List Cond := [Cond.code yX7_whyNotLoad cX7_whyNotLoad 3 (some .int), Cond.methodLink RX7 110 yX7_loads, Cond.instanceMethod yX7_loads, Cond.selects RX7 yX7_loads yX7_loads, Cond.code yX7_loads cX7_loads 4 (some .int), Cond.methodLink RL 27 yX6_turn, Cond.instanceMethod yX6_turn, Cond.selects RX6 yX6_turn yX6_turn, Cond.code yX6_turn cX6_turn 2 (some .int), Cond.methodLink RX6 63 yX2_switchLoad, Cond.instanceMethod yX2_switchLoad, Cond.selects RX2 yX2_switchLoad yX2_switchLoad, Cond.code yX2_switchLoad cX2_switchLoad 3 (some .int), Cond.fieldLink RX2 71 "EnergyDiscs$Load" "on" "Z", Cond.methodLink RX2 67 yX2_loadAt, Cond.instanceMethod yX2_loadAt, Cond.selects RX2 yX2_loadAt yX2_loadAt, Cond.code yX2_loadAt cX2_loadAt 2 (some (.object "EnergyDiscs$Load")), Cond.methodLink RL 30 yX7_turn, Cond.instanceMethod yX7_turn, Cond.selects RX7 yX7_turn yX7_turn, Cond.code yX7_turn cX7_turn 2 (some .int), Cond.methodLink RX7 113 yX7_isLoad, Cond.instanceMethod yX7_isLoad]
def wsL_law_r11 : List Cond := [Cond.selects RX7 yX7_isLoad yX7_isLoad, Cond.code yX7_isLoad cX7_isLoad 2 (some .boolean), Cond.methodLink RX7 116 yX7_turns, Cond.instanceMethod yX7_turns, Cond.selects RX7 yX7_turns yX7_turns, Cond.code yX7_turns cX7_turns 3 (some .int), Cond.methodLink RL 31 yX6_tamper, Cond.instanceMethod yX6_tamper, Cond.selects RX6 yX6_tamper yX6_tamper, Cond.code yX6_tamper cX6_tamper 2 (some .int), Cond.methodLink RX6 66 yX2_breakSeal, Cond.instanceMethod yX2_breakSeal, Cond.selects RX2 yX2_breakSeal yX2_breakSeal, Cond.code yX2_breakSeal cX2_breakSeal 3 (some .int), Cond.fieldLink RX2 75 "EnergyDiscs$Meter" "broken" "Z", Cond.fieldLink RX2 78 "EnergyDiscs$Meter" "seal" "I", Cond.methodLink RL 34 yX7_tamper, Cond.instanceMethod yX7_tamper, Cond.selects RX7 yX7_tamper yX7_tamper, Cond.code yX7_tamper cX7_tamper 3 (some .int), Cond.methodLink RX7 119 yX7_whyNotTamper, Cond.instanceMethod yX7_whyNotTamper, Cond.selects RX7 yX7_whyNotTamper yX7_whyNotTamper, Cond.code yX7_whyNotTamper cX7_whyNotTamper 2 (some .int)]
def wsL_law_r12 : List Cond := [Cond.methodLink RX7 53 yX7_its, Cond.instanceMethod yX7_its, Cond.selects RX7 yX7_its yX7_its, Cond.code yX7_its cX7_its 3 (some .int), Cond.methodLink RL 35 yX6_visit, Cond.instanceMethod yX6_visit, Cond.selects RX6 yX6_visit yX6_visit, Cond.code yX6_visit cX6_visit 2 (some .int), Cond.methodLink RX6 69 yX2_inspect, Cond.instanceMethod yX2_inspect, Cond.selects RX2 yX2_inspect yX2_inspect, Cond.code yX2_inspect cX2_inspect 4 (some .int), Cond.methodLink RX2 81 yX2_owedAt, Cond.instanceMethod yX2_owedAt, Cond.selects RX2 yX2_owedAt yX2_owedAt, Cond.code yX2_owedAt cX2_owedAt 2 (some .int), Cond.methodLink RX2 124 yX4_unbilledDayTurns, Cond.instanceMethod yX4_unbilledDayTurns, Cond.selects RX4 yX4_unbilledDayTurns yX4_unbilledDayTurns, Cond.code yX4_unbilledDayTurns cX4_unbilledDayTurns 1 (some .int), Cond.methodLink RX2 128 yX4_unbilledNightTurns, Cond.instanceMethod yX4_unbilledNightTurns, Cond.selects RX4 yX4_unbilledNightTurns yX4_unbilledNightTurns, Cond.code yX4_unbilledNightTurns cX4_unbilledNightTurns 1 (some .int)]
def wsL_law_r13 : List Cond := [Cond.methodLink RX2 85 yX4_settleBill, Cond.instanceMethod yX4_settleBill, Cond.selects RX4 yX4_settleBill yX4_settleBill, Cond.code yX4_settleBill cX4_settleBill 2 none, Cond.methodLink RX2 89 yX4_mend, Cond.instanceMethod yX4_mend, Cond.selects RX4 yX4_mend yX4_mend, Cond.code yX4_mend cX4_mend 2 none, Cond.methodLink RL 38 yX7_visit, Cond.instanceMethod yX7_visit, Cond.selects RX7 yX7_visit yX7_visit, Cond.code yX7_visit cX7_visit 2 (some .int), Cond.methodLink RX7 125 yX7_visits, Cond.instanceMethod yX7_visits, Cond.selects RX7 yX7_visits yX7_visits, Cond.code yX7_visits cX7_visits 4 (some .int), Cond.methodLink RX7 122 yX7_billOf, Cond.instanceMethod yX7_billOf, Cond.selects RX7 yX7_billOf yX7_billOf, Cond.code yX7_billOf cX7_billOf 3 (some .int), Cond.methodLink RL 39 yX6_pass, Cond.instanceMethod yX6_pass, Cond.selects RX6 yX6_pass yX6_pass, Cond.code yX6_pass cX6_pass 2 (some .int)]
def wsL_law_r14 : List Cond := [Cond.methodLink RX6 72 yX2_elapse, Cond.instanceMethod yX2_elapse, Cond.selects RX2 yX2_elapse yX2_elapse, Cond.code yX2_elapse cX2_elapse 4 (some .int), Cond.constant RX2 92 (99999), Cond.methodLink RX2 93 yX2_powerOf, Cond.instanceMethod yX2_powerOf, Cond.selects RX2 yX2_powerOf yX2_powerOf, Cond.code yX2_powerOf cX2_powerOf 5 (some .int), Cond.fieldLink RX2 134 "EnergyDiscs$Load" "behind" "I", Cond.fieldLink RX2 141 "EnergyDiscs$Load" "power" "I", Cond.methodLink RX2 131 yX2_fedThrough, Cond.instanceMethod yX2_fedThrough, Cond.selects RX2 yX2_fedThrough yX2_fedThrough, Cond.code yX2_fedThrough cX2_fedThrough 4 (some .int), Cond.fieldLink RX2 144 "EnergyDiscs$Meter" "through" "I", Cond.methodLink RX2 137 yX2_contains, Cond.static yX2_contains, Cond.code yX2_contains cX2_contains 2 (some .boolean), Cond.methodLink RX2 97 yX2_runDisc, Cond.instanceMethod yX2_runDisc, Cond.selects RX2 yX2_runDisc yX2_runDisc, Cond.code yX2_runDisc cX2_runDisc 9 (some .int), Cond.methodLink RX2 107 Lib.Math.min.name]
def wsL_law_r15 : List Cond := [Cond.methodLink RX2 113 Lib.Math.max.name, Cond.static Lib.Math.max.name, Cond.code Lib.Math.max.name Lib.Math.max.code 2 (some .int), Cond.static yX6_minutesToSwitch, Cond.code yX6_minutesToSwitch cX6_minutesToSwitch 2 (some .int), Cond.methodLink RX2 104 yX4_minutesToAge, Cond.instanceMethod yX4_minutesToAge, Cond.selects RX4 yX4_minutesToAge yX4_minutesToAge, Cond.code yX4_minutesToAge cX4_minutesToAge 2 (some .int), Cond.methodLink RX4 67 Lib.Math.max.name, Cond.static yX6_isNight, Cond.code yX6_isNight cX6_isNight 2 (some .boolean), Cond.methodLink RX2 120 yX4_run, Cond.instanceMethod yX4_run, Cond.selects RX4 yX4_run yX4_run, Cond.code yX4_run cX4_run 6 (some .int), Cond.methodLink RX4 77 Lib.Math.min.name, Cond.methodLink RX4 73 yX4_wayIn, Cond.instanceMethod yX4_wayIn, Cond.selects RX4 yX4_wayIn yX4_wayIn, Cond.code yX4_wayIn cX4_wayIn 5 (some .int), Cond.methodLink RL 42 yX7_pass, Cond.instanceMethod yX7_pass, Cond.selects RX7 yX7_pass yX7_pass]
def wsL_law_r16 : List Cond := [Cond.code yX7_pass cX7_pass 3 (some .int), Cond.methodLink RX7 129 yX7_whyNotPass, Cond.instanceMethod yX7_whyNotPass, Cond.selects RX7 yX7_whyNotPass yX7_whyNotPass, Cond.code yX7_whyNotPass cX7_whyNotPass 2 (some .int), Cond.constant RX7 128 (99999), Cond.methodLink RX7 132 yX7_passes, Cond.instanceMethod yX7_passes, Cond.selects RX7 yX7_passes yX7_passes, Cond.code yX7_passes cX7_passes 6 (some .int), Cond.methodLink RX7 83 yX7_passesOne, Cond.instanceMethod yX7_passesOne, Cond.selects RX7 yX7_passesOne yX7_passesOne, Cond.code yX7_passesOne cX7_passesOne 9 (some .int), Cond.constantLong RX7 68 (6000), Cond.constantLong RX7 81 (160), Cond.methodLink RX7 70 yX7_power, Cond.instanceMethod yX7_power, Cond.selects RX7 yX7_power yX7_power, Cond.code yX7_power cX7_power 5 (some .int), Cond.methodLink RX7 56 yX7_isThrough, Cond.instanceMethod yX7_isThrough, Cond.selects RX7 yX7_isThrough yX7_isThrough, Cond.code yX7_isThrough cX7_isThrough 4 (some .boolean)]
def wsL_law_r17 : List Cond := [Cond.methodLink RX7 73 yX7_goes, Cond.instanceMethod yX7_goes, Cond.selects RX7 yX7_goes yX7_goes, Cond.code yX7_goes cX7_goes 9 (some .long), Cond.methodLink RX7 77 yX7_isNight, Cond.static yX7_isNight, Cond.code yX7_isNight cX7_isNight 4 (some .boolean), Cond.constantLong RX7 60 (1440), Cond.constantLong RX7 62 (1320), Cond.constantLong RX7 64 (360), Cond.methodLink RL 43 yX6_write, Cond.instanceMethod yX6_write, Cond.selects RX6 yX6_write yX6_write, Cond.code yX6_write cX6_write 3 (some .int), Cond.fieldLink RX6 86 "EnergyDiscs$Meter" "dayTurns" "I", Cond.fieldLink RX6 94 "EnergyDiscs$Meter" "nightTurns" "I", Cond.fieldLink RX6 97 "EnergyDiscs$Meter" "seal" "I", Cond.fieldLink RX6 100 "EnergyDiscs$Meter" "broken" "Z", Cond.fieldLink RX6 104 "EnergyDiscs$Pad" "length" "I", Cond.methodLink RX6 75 yX2_meterAt, Cond.methodLink RX6 79 yX5_clear, Cond.instanceMethod yX5_clear, Cond.selects RX5 yX5_clear yX5_clear, Cond.code yX5_clear cX5_clear 1 none]
def wsL_law_r18 : List Cond := [Cond.methodLink RX6 82 yX5_append, Cond.instanceMethod yX5_append, Cond.selects RX5 yX5_append yX5_append, Cond.code yX5_append cX5_append 2 none, Cond.methodLink RX6 90 yX5_appendNumber, Cond.instanceMethod yX5_appendNumber, Cond.selects RX5 yX5_appendNumber yX5_appendNumber, Cond.code yX5_appendNumber cX5_appendNumber 5 none, Cond.methodLink RL 46 yX7_write, Cond.instanceMethod yX7_write, Cond.selects RX7 yX7_write yX7_write, Cond.code yX7_write cX7_write 2 (some .int), Cond.fieldLink RX7 135 "EnergyDiscsModel" "length" "I", Cond.methodLink RX7 138 yX7_types, Cond.instanceMethod yX7_types, Cond.selects RX7 yX7_types yX7_types, Cond.code yX7_types cX7_types 2 none, Cond.methodLink RX7 142 yX7_typesNumber, Cond.instanceMethod yX7_typesNumber, Cond.selects RX7 yX7_typesNumber yX7_typesNumber, Cond.code yX7_typesNumber cX7_typesNumber 3 none, Cond.methodLink RL 47 yX6_sign, Cond.instanceMethod yX6_sign, Cond.selects RX6 yX6_sign yX6_sign]
def wsL_law_r19 : List Cond := [Cond.code yX6_sign cX6_sign 2 (some .int), Cond.methodLink RX6 107 yX5_signAt, Cond.instanceMethod yX5_signAt, Cond.selects RX5 yX5_signAt yX5_signAt, Cond.code yX5_signAt cX5_signAt 2 (some .int), Cond.methodLink RL 50 yX7_sign, Cond.instanceMethod yX7_sign, Cond.selects RX7 yX7_sign yX7_sign, Cond.code yX7_sign cX7_sign 2 (some .int), Cond.methodLink RL 51 yX6_of, Cond.instanceMethod yX6_of, Cond.selects RX6 yX6_of yX6_of, Cond.code yX6_of cX6_of 4 (some .int), Cond.fieldLink RX6 110 "EnergyDiscs$Meter" "through" "I", Cond.fieldLink RX6 116 "EnergyDiscs$Meter" "place" "I", Cond.fieldLink RX6 119 "EnergyDiscs$Meter" "speed" "I", Cond.fieldLink RX6 122 "EnergyDiscs$Meter" "flowed" "J", Cond.constantLong RX6 126 (6000), Cond.fieldLink RX6 128 "EnergyDiscs$Meter" "billed" "I", Cond.fieldLink RX6 131 "EnergyDiscs$House" "settings" "[I", Cond.fieldLink RX6 138 "EnergyDiscs$Meter" "visits" "I", Cond.methodLink RX6 113 yX2_powerOf, Cond.methodLink RX6 135 yX4_minutesToWeaken, Cond.instanceMethod yX4_minutesToWeaken]
def wsL_law_r20 : List Cond := [Cond.selects RX4 yX4_minutesToWeaken yX4_minutesToWeaken, Cond.code yX4_minutesToWeaken cX4_minutesToWeaken 2 (some .int), Cond.methodLink RX4 63 yX4_minutesToAge, Cond.methodLink RL 54 yX7_of, Cond.instanceMethod yX7_of, Cond.selects RX7 yX7_of yX7_of, Cond.code yX7_of cX7_of 3 (some .int), Cond.methodLink RX7 145 yX7_untilWeaker, Cond.instanceMethod yX7_untilWeaker, Cond.selects RX7 yX7_untilWeaker yX7_untilWeaker, Cond.code yX7_untilWeaker cX7_untilWeaker 3 (some .int), Cond.methodLink RL 55 yX6_ofLoad, Cond.instanceMethod yX6_ofLoad, Cond.selects RX6 yX6_ofLoad yX6_ofLoad, Cond.code yX6_ofLoad cX6_ofLoad 4 (some .int), Cond.fieldLink RX6 145 "EnergyDiscs$Load" "behind" "I", Cond.fieldLink RX6 150 "EnergyDiscs$Load" "power" "I", Cond.fieldLink RX6 153 "EnergyDiscs$Load" "on" "Z", Cond.methodLink RX6 141 yX2_loadAt, Cond.methodLink RL 58 yX7_ofLoad, Cond.instanceMethod yX7_ofLoad, Cond.selects RX7 yX7_ofLoad yX7_ofLoad, Cond.code yX7_ofLoad cX7_ofLoad 3 (some .int), Cond.methodLink RL 59 yX6_misses]
def wsL_law_r21 : List Cond := [Cond.instanceMethod yX6_misses, Cond.selects RX6 yX6_misses yX6_misses, Cond.code yX6_misses cX6_misses 3 (some .long), Cond.constantLong RX6 156 (-1), Cond.constantLong RX6 162 (10000000000), Cond.methodLink RX6 158 yX4_missed, Cond.instanceMethod yX4_missed, Cond.selects RX4 yX4_missed yX4_missed, Cond.code yX4_missed cX4_missed 1 (some .long), Cond.constantLong RX4 57 (6000), Cond.methodLink RX4 59 yX4_turns, Cond.instanceMethod yX4_turns, Cond.selects RX4 yX4_turns yX4_turns, Cond.code yX4_turns cX4_turns 1 (some .int), Cond.methodLink RL 63 yX7_misses, Cond.instanceMethod yX7_misses, Cond.selects RX7 yX7_misses yX7_misses, Cond.code yX7_misses cX7_misses 2 (some .long), Cond.constantLong RX7 151 (10000000000), Cond.methodLink RX7 148 yX7_turnsOf, Cond.instanceMethod yX7_turnsOf, Cond.selects RX7 yX7_turnsOf yX7_turnsOf, Cond.code yX7_turnsOf cX7_turnsOf 2 (some .int), Cond.methodLink RL 64 yX6_fed]
def wsL_law_r22 : List Cond := [Cond.instanceMethod yX6_fed, Cond.selects RX6 yX6_fed yX6_fed, Cond.code yX6_fed cX6_fed 2 (some .int), Cond.methodLink RX6 164 yX2_fedThrough, Cond.methodLink RL 67 yX7_fed, Cond.instanceMethod yX7_fed, Cond.selects RX7 yX7_fed yX7_fed, Cond.code yX7_fed cX7_fed 4 (some .int), Cond.methodLink RL 68 yX6_count, Cond.instanceMethod yX6_count, Cond.selects RX6 yX6_count yX6_count, Cond.code yX6_count cX6_count 2 (some .int), Cond.fieldLink RX6 167 "EnergyDiscs$House" "time" "I", Cond.fieldLink RX6 174 "EnergyDiscs$House" "meterCount" "I", Cond.fieldLink RX6 177 "EnergyDiscs$House" "loadCount" "I", Cond.fieldLink RX6 193 "EnergyDiscs$House" "greatestSeal" "I", Cond.fieldLink RX6 196 "EnergyDiscs$History" "kept" "I", Cond.methodLink RX6 170 yX6_isNight, Cond.methodLink RX6 180 yX2_loadsOn, Cond.instanceMethod yX2_loadsOn, Cond.selects RX2 yX2_loadsOn yX2_loadsOn, Cond.code yX2_loadsOn cX2_loadsOn 3 (some .int), Cond.methodLink RX6 184 yX2_sealsBroken, Cond.instanceMethod yX2_sealsBroken]
def wsL_law_r23 : List Cond := [Cond.selects RX2 yX2_sealsBroken yX2_sealsBroken, Cond.code yX2_sealsBroken cX2_sealsBroken 3 (some .int), Cond.methodLink RX6 187 yX2_allTurns, Cond.instanceMethod yX2_allTurns, Cond.selects RX2 yX2_allTurns yX2_allTurns, Cond.code yX2_allTurns cX2_allTurns 3 (some .int), Cond.methodLink RX2 147 yX4_turns, Cond.methodLink RX6 190 yX2_allBilled, Cond.instanceMethod yX2_allBilled, Cond.selects RX2 yX2_allBilled yX2_allBilled, Cond.code yX2_allBilled cX2_allBilled 3 (some .int), Cond.fieldLink RX2 150 "EnergyDiscs$Meter" "billed" "I", Cond.methodLink RL 71 yX7_count, Cond.instanceMethod yX7_count, Cond.selects RX7 yX7_count yX7_count, Cond.code yX7_count cX7_count 2 (some .int), Cond.methodLink RX7 153 yX7_ofAll, Cond.instanceMethod yX7_ofAll, Cond.selects RX7 yX7_ofAll yX7_ofAll, Cond.code yX7_ofAll cX7_ofAll 4 (some .int), Cond.methodLink RL 72 yX6_bill, Cond.instanceMethod yX6_bill, Cond.selects RX6 yX6_bill yX6_bill, Cond.code yX6_bill cX6_bill 3 (some .int)]
def wsL_law_r24 : List Cond := [Cond.methodLink RX6 199 yX2_owedAt, Cond.methodLink RL 75 yX7_bill, Cond.instanceMethod yX7_bill, Cond.selects RX7 yX7_bill yX7_bill, Cond.code yX7_bill cX7_bill 2 (some .int), Cond.methodLink RL 76 yX6_turnsIn, Cond.instanceMethod yX6_turnsIn, Cond.selects RX6 yX6_turnsIn yX6_turnsIn, Cond.code yX6_turnsIn cX6_turnsIn 3 (some .int), Cond.methodLink RX6 203 yX4_copyFrom, Cond.methodLink RX6 207 yX2_minutesToTurn, Cond.instanceMethod yX2_minutesToTurn, Cond.selects RX2 yX2_minutesToTurn yX2_minutesToTurn, Cond.code yX2_minutesToTurn cX2_minutesToTurn 4 (some .int), Cond.methodLink RL 79 yX7_turnsIn, Cond.instanceMethod yX7_turnsIn, Cond.selects RX7 yX7_turnsIn yX7_turnsIn, Cond.code yX7_turnsIn cX7_turnsIn 4 (some .int), Cond.methodLink RX7 156 yX7_copies, Cond.instanceMethod yX7_copies, Cond.selects RX7 yX7_copies yX7_copies, Cond.code yX7_copies cX7_copies 2 none, Cond.methodLink RL 80 yX6_wouldTurn, Cond.instanceMethod yX6_wouldTurn]
def wsL_law_r25 : List Cond := [Cond.selects RX6 yX6_wouldTurn yX6_wouldTurn, Cond.code yX6_wouldTurn cX6_wouldTurn 5 (some .int), Cond.methodLink RX6 211 yX2_runDisc, Cond.methodLink RL 84 yX7_wouldTurn, Cond.instanceMethod yX7_wouldTurn, Cond.selects RX7 yX7_wouldTurn yX7_wouldTurn, Cond.code yX7_wouldTurn cX7_wouldTurn 7 (some .int), Cond.methodLink RL 85 yX6_worst, Cond.instanceMethod yX6_worst, Cond.selects RX6 yX6_worst yX6_worst, Cond.code yX6_worst cX6_worst 1 (some .int), Cond.methodLink RX6 215 yX2_mostMissing, Cond.instanceMethod yX2_mostMissing, Cond.selects RX2 yX2_mostMissing yX2_mostMissing, Cond.code yX2_mostMissing cX2_mostMissing 3 (some .int), Cond.methodLink RX2 153 yX4_missed, Cond.methodLink RL 89 yX7_worst, Cond.instanceMethod yX7_worst, Cond.selects RX7 yX7_worst yX7_worst, Cond.code yX7_worst cX7_worst 3 (some .int), Cond.methodLink RX7 159 yX7_misses, Cond.methodLink RL 90 yX6_lags, Cond.instanceMethod yX6_lags, Cond.selects RX6 yX6_lags yX6_lags]
def wsL_law_r26 : List Cond := [Cond.code yX6_lags cX6_lags 2 (some .int), Cond.constant RX6 221 (10000000), Cond.methodLink RX6 218 yX2_turnsBehind, Cond.instanceMethod yX2_turnsBehind, Cond.selects RX2 yX2_turnsBehind yX2_turnsBehind, Cond.code yX2_turnsBehind cX2_turnsBehind 4 (some .int), Cond.methodLink RL 93 yX7_lags, Cond.instanceMethod yX7_lags, Cond.selects RX7 yX7_lags yX7_lags, Cond.code yX7_lags cX7_lags 4 (some .int), Cond.constant RX7 163 (10000000), Cond.methodLink RL 96 yX6_put, Cond.instanceMethod yX6_put, Cond.selects RX6 yX6_put yX6_put, Cond.code yX6_put cX6_put 5 (some .int), Cond.methodLink RX6 222 yX5_signsIn, Cond.static yX5_signsIn, Cond.code yX5_signsIn cX5_signsIn 4 (some .int), Cond.methodLink RX5 23 yX5_signOf, Cond.static yX5_signOf, Cond.code yX5_signOf cX5_signOf 3 (some .char), Cond.constantLong RX5 27 (255), Cond.methodLink RX6 226 yX5_signOf, Cond.methodLink RL 100 yX7_put]
def wsL_law_r27 : List Cond := [Cond.instanceMethod yX7_put, Cond.selects RX7 yX7_put yX7_put, Cond.code yX7_put cX7_put 8 (some .int), Cond.constantLong RX7 164 (255), Cond.methodLink RL 101 yX6_wipe, Cond.instanceMethod yX6_wipe, Cond.selects RX6 yX6_wipe yX6_wipe, Cond.code yX6_wipe cX6_wipe 2 (some .int), Cond.methodLink RL 104 yX7_wipe, Cond.instanceMethod yX7_wipe, Cond.selects RX7 yX7_wipe yX7_wipe, Cond.code yX7_wipe cX7_wipe 2 (some .int), Cond.methodLink RL 105 yX6_fault, Cond.instanceMethod yX6_fault, Cond.selects RX6 yX6_fault yX6_fault, Cond.code yX6_fault cX6_fault 1 (some .int), Cond.methodLink RX6 230 yX0_faultOf, Cond.static yX0_faultOf, Cond.initialized RX0, Cond.code yX0_faultOf cX0_faultOf 3 (some .int), Cond.fieldLink RX0 11 "EnergyDiscs$Pad" "length" "I", Cond.methodLink RX0 17 yX5_signAt, Cond.methodLink RX0 21 yX0_stateAfter, Cond.static yX0_stateAfter]
def wsL_law_r28 : List Cond := [Cond.code yX0_stateAfter cX0_stateAfter 2 (some .int), Cond.methodLink RX0 25 yX0_mayEnd, Cond.static yX0_mayEnd, Cond.code yX0_mayEnd cX0_mayEnd 1 (some .boolean), Cond.methodLink RX0 29 yX0_stateAfterName, Cond.static yX0_stateAfterName, Cond.code yX0_stateAfterName cX0_stateAfterName 1 (some .int), Cond.methodLink RX0 32 yX0_ifDigit, Cond.static yX0_ifDigit, Cond.code yX0_ifDigit cX0_ifDigit 2 (some .int), Cond.methodLink RL 108 yX7_fault, Cond.instanceMethod yX7_fault, Cond.selects RX7 yX7_fault yX7_fault, Cond.code yX7_fault cX7_fault 4 (some .int), Cond.methodLink RX7 175 yX7_orderEnd, Cond.instanceMethod yX7_orderEnd, Cond.selects RX7 yX7_orderEnd yX7_orderEnd, Cond.code yX7_orderEnd cX7_orderEnd 2 (some .int), Cond.methodLink RX7 172 yX7_code, Cond.instanceMethod yX7_code, Cond.selects RX7 yX7_code yX7_code, Cond.code yX7_code cX7_code 2 (some .int), Cond.methodLink RX7 166 yX7_digit, Cond.instanceMethod yX7_digit]
def wsL_law_r29 : List Cond := [Cond.selects RX7 yX7_digit yX7_digit, Cond.code yX7_digit cX7_digit 2 (some .int), Cond.methodLink RX7 169 yX7_numberEnd, Cond.instanceMethod yX7_numberEnd, Cond.selects RX7 yX7_numberEnd yX7_numberEnd, Cond.code yX7_numberEnd cX7_numberEnd 3 (some .int), Cond.methodLink RL 109 yX6_carryOut, Cond.instanceMethod yX6_carryOut, Cond.selects RX6 yX6_carryOut yX6_carryOut, Cond.code yX6_carryOut cX6_carryOut 4 (some .int), Cond.methodLink RX6 236 yX6_carryOneOut, Cond.instanceMethod yX6_carryOneOut, Cond.selects RX6 yX6_carryOneOut yX6_carryOneOut, Cond.code yX6_carryOneOut cX6_carryOneOut 3 (some .int), Cond.methodLink RX6 239 yX5_numberIn, Cond.instanceMethod yX5_numberIn, Cond.selects RX5 yX5_numberIn yX5_numberIn, Cond.code yX5_numberIn cX5_numberIn 5 (some .int), Cond.methodLink RX5 19 yX5_signAt, Cond.methodLink RL 112 yX7_carryOut, Cond.instanceMethod yX7_carryOut, Cond.selects RX7 yX7_carryOut yX7_carryOut, Cond.code yX7_carryOut cX7_carryOut 4 (some .int), Cond.methodLink RX7 181 yX7_fault]
def wsL_law_r30 : List Cond := [Cond.methodLink RX7 185 yX7_whyNot, Cond.instanceMethod yX7_whyNot, Cond.selects RX7 yX7_whyNot yX7_whyNot, Cond.code yX7_whyNot cX7_whyNot 3 (some .int), Cond.methodLink RX7 178 yX7_numberAt, Cond.instanceMethod yX7_numberAt, Cond.selects RX7 yX7_numberAt yX7_numberAt, Cond.code yX7_numberAt cX7_numberAt 4 (some .int), Cond.methodLink RX7 188 yX7_does, Cond.instanceMethod yX7_does, Cond.selects RX7 yX7_does yX7_does, Cond.code yX7_does cX7_does 3 (some .int), Cond.methodLink RL 113 yX6_undo, Cond.instanceMethod yX6_undo, Cond.selects RX6 yX6_undo yX6_undo, Cond.code yX6_undo cX6_undo 1 (some .int), Cond.methodLink RX6 242 yX1_takeLatest, Cond.instanceMethod yX1_takeLatest, Cond.selects RX1 yX1_takeLatest yX1_takeLatest, Cond.code yX1_takeLatest cX1_takeLatest 1 (some (.object "EnergyDiscs$House")), Cond.methodLink RX6 246 yX2_copyFrom, Cond.methodLink RL 116 yX7_undo, Cond.instanceMethod yX7_undo, Cond.selects RX7 yX7_undo yX7_undo]
def wsL_law_r31 : List Cond := [Cond.code yX7_undo cX7_undo 2 (some .int), Cond.methodLink RL 117 yX6_save, Cond.instanceMethod yX6_save, Cond.selects RX6 yX6_save yX6_save, Cond.code yX6_save cX6_save 2 (some .int), Cond.methodLink RL 120 yX7_save, Cond.instanceMethod yX7_save, Cond.selects RX7 yX7_save yX7_save, Cond.code yX7_save cX7_save 3 (some .int), Cond.methodLink RL 121 yX6_restore, Cond.instanceMethod yX6_restore, Cond.selects RX6 yX6_restore yX6_restore, Cond.code yX6_restore cX6_restore 2 (some .int), Cond.methodLink RL 124 yX7_restore, Cond.instanceMethod yX7_restore, Cond.selects RX7 yX7_restore yX7_restore, Cond.code yX7_restore cX7_restore 3 (some .int)]
def wsL_law : List Cond := (wsL_law_r1 ++ (wsL_law_r2 ++ (wsL_law_r3 ++ (wsL_law_r4 ++ (wsL_law_r5 ++ (wsL_law_r6 ++ (wsL_law_r7 ++ (wsL_law_r8 ++ (wsL_law_r9 ++ (wsL_law_r10 ++ (wsL_law_r11 ++ (wsL_law_r12 ++ (wsL_law_r13 ++ (wsL_law_r14 ++ (wsL_law_r15 ++ (wsL_law_r16 ++ (wsL_law_r17 ++ (wsL_law_r18 ++ (wsL_law_r19 ++ (wsL_law_r20 ++ (wsL_law_r21 ++ (wsL_law_r22 ++ (wsL_law_r23 ++ (wsL_law_r24 ++ (wsL_law_r25 ++ (wsL_law_r26 ++ (wsL_law_r27 ++ (wsL_law_r28 ++ (wsL_law_r29 ++ (wsL_law_r30 ++ wsL_law_r31)))))))))))))))))))))))))))))) ++ wsX60 ++ wsX70 ++ wsX20 ++ wsX40 ++ wsX50 ++ wsX10 ++ wsX30 ++ ([] : List Cond)
theorem in_places {big : List Cond} (ws : List Cond) (ps : List Nat) (hp : ws = ps.filterMap (fun i => big[i]?)) : ∀ w ∈ ws, w ∈ big := by
  intro w hw
  rw [hp] at hw
  obtain ⟨i, -, hi⟩ := List.mem_filterMap.mp hw
  first | exact List.mem_of_getElem? hi | exact List.getElem?_mem hi
set_option maxRecDepth 20000 in
theorem wsL_law_r1_in : ∀ w ∈ wsL_law_r1, w ∈ lw_tbl := in_places _ [44, 45, 35, 577, 578, 41, 871, 46, 47, 48, 49, 50, 51, 52, 53, 36, 218, 180, 64, 37, 219, 182, 183, 39] (by decide +kernel)
set_option maxRecDepth 20000 in
theorem wsL_law_r2_in : ∀ w ∈ wsL_law_r2, w ∈ lw_tbl := in_places _ [220, 198, 199, 40, 221, 222, 237, 223, 54, 55, 56, 57, 127, 153, 58, 155, 60, 156, 128, 38, 65, 66, 67, 68] (by decide +kernel)
set_option maxRecDepth 20000 in
theorem wsL_law_r3_in : ∀ w ∈ wsL_law_r3, w ∈ lw_tbl := in_places _ [69, 70, 71, 72, 73, 76, 78, 80, 81, 83, 85, 86, 87, 89, 92, 95, 98, 129, 130, 131, 132, 133, 134, 135] (by decide +kernel)
set_option maxRecDepth 20000 in
theorem wsL_law_r4_in : ∀ w ∈ wsL_law_r4, w ∈ lw_tbl := in_places _ [136, 137, 140, 143, 181, 184, 185, 186, 187, 197, 188, 189, 200, 201, 202, 203, 204, 207, 208, 209, 206, 579, 580, 581] (by decide +kernel)
set_option maxRecDepth 20000 in
theorem wsL_law_r5_in : ∀ w ∈ wsL_law_r5, w ∈ lw_tbl := in_places _ [582, 610, 588, 589, 591, 592, 593, 583, 584, 585, 586, 587, 238, 239, 240, 241, 242, 243, 244, 245, 246, 247, 248, 249] (by decide +kernel)
set_option maxRecDepth 20000 in
theorem wsL_law_r6_in : ∀ w ∈ wsL_law_r6, w ∈ lw_tbl := in_places _ [159, 161, 157, 163, 250, 251, 252, 253, 254, 255, 256, 257, 258, 259, 260, 261, 266, 267, 268, 269, 270, 271, 42, 272] (by decide +kernel)
set_option maxRecDepth 20000 in
theorem wsL_law_r7_in : ∀ w ∈ wsL_law_r7, w ∈ lw_tbl := in_places _ [611, 612, 613, 614, 615, 616, 617, 618, 619, 620, 621, 622, 623, 624, 626, 2, 627, 590, 628, 630, 3, 631, 273, 274] (by decide +kernel)
set_option maxRecDepth 20000 in
theorem wsL_law_r8_in : ∀ w ∈ wsL_law_r8, w ∈ lw_tbl := in_places _ [275, 276, 277, 278, 279, 280, 281, 282, 283, 284, 285, 632, 633, 634, 635, 636, 638, 4, 639, 640, 642, 5, 643, 644] (by decide +kernel)
set_option maxRecDepth 20000 in
theorem wsL_law_r9_in : ∀ w ∈ wsL_law_r9, w ∈ lw_tbl := in_places _ [646, 6, 647, 651, 652, 648, 649, 650, 286, 287, 288, 289, 290, 291, 292, 293, 294, 653, 654, 655, 656, 657, 659, 7] (by decide +kernel)
set_option maxRecDepth 20000 in
theorem wsL_law_r10_in : ∀ w ∈ wsL_law_r10, w ∈ lw_tbl := in_places _ [660, 661, 663, 8, 664, 295, 296, 297, 298, 299, 300, 301, 302, 144, 303, 304, 305, 306, 665, 666, 667, 668, 669, 671] (by decide +kernel)
set_option maxRecDepth 20000 in
theorem wsL_law_r11_in : ∀ w ∈ wsL_law_r11, w ∈ lw_tbl := in_places _ [9, 672, 673, 675, 10, 676, 307, 308, 309, 310, 311, 312, 313, 314, 93, 90, 677, 678, 679, 680, 681, 683, 11, 684] (by decide +kernel)
set_option maxRecDepth 20000 in
theorem wsL_law_r12_in : ∀ w ∈ wsL_law_r12, w ∈ lw_tbl := in_places _ [685, 687, 12, 688, 315, 316, 317, 318, 319, 320, 321, 322, 323, 324, 325, 326, 327, 328, 329, 330, 331, 332, 333, 334] (by decide +kernel)
set_option maxRecDepth 20000 in
theorem wsL_law_r13_in : ∀ w ∈ wsL_law_r13, w ∈ lw_tbl := in_places _ [335, 336, 337, 338, 339, 340, 341, 342, 689, 690, 691, 692, 693, 695, 13, 696, 697, 699, 14, 700, 343, 344, 345, 346] (by decide +kernel)
set_option maxRecDepth 20000 in
theorem wsL_law_r14_in : ∀ w ∈ wsL_law_r14, w ∈ lw_tbl := in_places _ [347, 348, 349, 350, 351, 352, 353, 354, 355, 139, 142, 356, 357, 358, 359, 75, 360, 361, 362, 363, 364, 365, 366, 377] (by decide +kernel)
set_option maxRecDepth 20000 in
theorem wsL_law_r15_in : ∀ w ∈ wsL_law_r15, w ∈ lw_tbl := in_places _ [378, 375, 376, 368, 369, 370, 371, 372, 373, 374, 380, 381, 382, 383, 384, 385, 390, 386, 388, 0, 389, 701, 702, 703] (by decide +kernel)
set_option maxRecDepth 20000 in
theorem wsL_law_r16_in : ∀ w ∈ wsL_law_r16, w ∈ lw_tbl := in_places _ [704, 705, 707, 15, 708, 709, 710, 712, 16, 713, 714, 716, 17, 717, 730, 737, 718, 720, 18, 721, 722, 724, 19, 725] (by decide +kernel)
set_option maxRecDepth 20000 in
theorem wsL_law_r17_in : ∀ w ∈ wsL_law_r17, w ∈ lw_tbl := in_places _ [726, 728, 20, 729, 731, 732, 733, 734, 735, 736, 391, 392, 393, 394, 82, 84, 91, 94, 191, 395, 396, 397, 398, 399] (by decide +kernel)
set_option maxRecDepth 20000 in
theorem wsL_law_r18_in : ∀ w ∈ wsL_law_r18, w ∈ lw_tbl := in_places _ [400, 401, 402, 403, 404, 405, 406, 407, 738, 739, 740, 741, 594, 742, 744, 21, 745, 746, 748, 22, 749, 408, 409, 410] (by decide +kernel)
set_option maxRecDepth 20000 in
theorem wsL_law_r19_in : ∀ w ∈ wsL_law_r19, w ∈ lw_tbl := in_places _ [411, 412, 413, 414, 415, 750, 751, 752, 753, 416, 417, 418, 419, 74, 77, 79, 88, 421, 96, 154, 99, 420, 422, 423] (by decide +kernel)
set_option maxRecDepth 20000 in
theorem wsL_law_r20_in : ∀ w ∈ wsL_law_r20, w ∈ lw_tbl := in_places _ [424, 425, 426, 754, 755, 756, 757, 758, 760, 23, 761, 427, 428, 429, 430, 138, 141, 145, 431, 762, 763, 764, 765, 432] (by decide +kernel)
set_option maxRecDepth 20000 in
theorem wsL_law_r21_in : ∀ w ∈ wsL_law_r21, w ∈ lw_tbl := in_places _ [433, 434, 435, 436, 446, 437, 438, 439, 440, 441, 442, 443, 444, 445, 766, 767, 768, 769, 774, 770, 772, 24, 773, 447] (by decide +kernel)
set_option maxRecDepth 20000 in
theorem wsL_law_r22_in : ∀ w ∈ wsL_law_r22, w ∈ lw_tbl := in_places _ [448, 449, 450, 451, 775, 776, 777, 778, 452, 453, 454, 455, 158, 160, 162, 164, 210, 456, 457, 458, 459, 460, 461, 462] (by decide +kernel)
set_option maxRecDepth 20000 in
theorem wsL_law_r23_in : ∀ w ∈ wsL_law_r23, w ∈ lw_tbl := in_places _ [463, 464, 465, 466, 467, 468, 469, 470, 471, 472, 473, 97, 779, 780, 781, 782, 783, 785, 25, 786, 474, 475, 476, 477] (by decide +kernel)
set_option maxRecDepth 20000 in
theorem wsL_law_r24_in : ∀ w ∈ wsL_law_r24, w ∈ lw_tbl := in_places _ [478, 787, 788, 789, 790, 479, 480, 481, 482, 483, 484, 485, 486, 487, 791, 792, 793, 794, 795, 797, 26, 798, 488, 489] (by decide +kernel)
set_option maxRecDepth 20000 in
theorem wsL_law_r25_in : ∀ w ∈ wsL_law_r25, w ∈ lw_tbl := in_places _ [490, 491, 492, 799, 800, 801, 802, 493, 494, 495, 496, 497, 498, 499, 500, 501, 803, 804, 805, 806, 807, 502, 503, 504] (by decide +kernel)
set_option maxRecDepth 20000 in
theorem wsL_law_r26_in : ∀ w ∈ wsL_law_r26, w ∈ lw_tbl := in_places _ [505, 510, 506, 507, 508, 509, 808, 809, 810, 811, 812, 511, 512, 513, 514, 515, 516, 517, 518, 519, 520, 521, 522, 813] (by decide +kernel)
set_option maxRecDepth 20000 in
theorem wsL_law_r27_in : ∀ w ∈ wsL_law_r27, w ∈ lw_tbl := in_places _ [814, 815, 816, 817, 523, 524, 525, 526, 818, 819, 820, 821, 527, 528, 529, 530, 531, 532, 43, 533, 190, 534, 535, 536] (by decide +kernel)
set_option maxRecDepth 20000 in
theorem wsL_law_r28_in : ∀ w ∈ wsL_law_r28, w ∈ lw_tbl := in_places _ [537, 538, 539, 540, 541, 542, 543, 544, 545, 546, 822, 823, 824, 825, 826, 828, 27, 829, 830, 832, 28, 833, 834, 836] (by decide +kernel)
set_option maxRecDepth 20000 in
theorem wsL_law_r29_in : ∀ w ∈ wsL_law_r29, w ∈ lw_tbl := in_places _ [29, 837, 838, 840, 30, 841, 547, 548, 549, 550, 551, 553, 1, 554, 555, 556, 557, 558, 559, 842, 843, 844, 845, 846] (by decide +kernel)
set_option maxRecDepth 20000 in
theorem wsL_law_r30_in : ∀ w ∈ wsL_law_r30, w ∈ lw_tbl := in_places _ [847, 849, 31, 850, 851, 853, 32, 854, 855, 857, 33, 858, 560, 561, 562, 563, 564, 565, 566, 567, 568, 859, 860, 861] (by decide +kernel)
set_option maxRecDepth 20000 in
theorem wsL_law_r31_in : ∀ w ∈ wsL_law_r31, w ∈ lw_tbl := in_places _ [862, 569, 570, 571, 572, 863, 864, 865, 866, 573, 574, 575, 576, 867, 868, 869, 870] (by decide +kernel)
theorem inY1 : ∀ w ∈ wsX10, w ∈ lw_tbl := by decide +kernel
theorem inY2 : ∀ w ∈ wsX20, w ∈ lw_tbl := by decide +kernel
theorem inY3 : ∀ w ∈ wsX30, w ∈ lw_tbl := by decide +kernel
theorem inY4 : ∀ w ∈ wsX40, w ∈ lw_tbl := by decide +kernel
theorem inY5 : ∀ w ∈ wsX50, w ∈ lw_tbl := by decide +kernel
theorem inY6 : ∀ w ∈ wsX60, w ∈ lw_tbl := by decide +kernel
theorem inY7 : ∀ w ∈ wsX70, w ∈ lw_tbl := by decide +kernel
theorem inY0 : ∀ w ∈ wsX00, w ∈ lw_tbl := by decide +kernel
theorem inYJ9 : ∀ w ∈ wsJ90, w ∈ lw_tbl := by decide +kernel
theorem mem_app {a b big : List Cond} (h1 : ∀ w ∈ a, w ∈ big) (h2 : ∀ w ∈ b, w ∈ big) : ∀ w ∈ a ++ b, w ∈ big := fun w h => (List.mem_append.mp h).elim (h1 w) (h2 w)
theorem wsL_law_in : ∀ w ∈ wsL_law, w ∈ lw_tbl := mem_app (mem_app (mem_app (mem_app (mem_app (mem_app (mem_app (mem_app (mem_app (wsL_law_r1_in) (mem_app (wsL_law_r2_in) (mem_app (wsL_law_r3_in) (mem_app (wsL_law_r4_in) (mem_app (wsL_law_r5_in) (mem_app (wsL_law_r6_in) (mem_app (wsL_law_r7_in) (mem_app (wsL_law_r8_in) (mem_app (wsL_law_r9_in) (mem_app (wsL_law_r10_in) (mem_app (wsL_law_r11_in) (mem_app (wsL_law_r12_in) (mem_app (wsL_law_r13_in) (mem_app (wsL_law_r14_in) (mem_app (wsL_law_r15_in) (mem_app (wsL_law_r16_in) (mem_app (wsL_law_r17_in) (mem_app (wsL_law_r18_in) (mem_app (wsL_law_r19_in) (mem_app (wsL_law_r20_in) (mem_app (wsL_law_r21_in) (mem_app (wsL_law_r22_in) (mem_app (wsL_law_r23_in) (mem_app (wsL_law_r24_in) (mem_app (wsL_law_r25_in) (mem_app (wsL_law_r26_in) (mem_app (wsL_law_r27_in) (mem_app (wsL_law_r28_in) (mem_app (wsL_law_r29_in) (mem_app (wsL_law_r30_in) (wsL_law_r31_in))))))))))))))))))))))))))))))) (inY6)) (inY7)) (inY2)) (inY4)) (inY5)) (inY1)) (inY3)) (fun _ h => absurd h List.not_mem_nil)
theorem inX0 : ∀ w ∈ wsX00, w ∈ lw_tbl := by decide +kernel
theorem inlX1 : ∀ w ∈ wsX10, w ∈ wsL_law := fun _ h => List.mem_append_left _ (List.mem_append_left _ (List.mem_append_right _ h))
theorem inX1 : ∀ w ∈ wsX10, w ∈ lw_tbl := fun w h => wsL_law_in w (inlX1 w h)
theorem inlX2 : ∀ w ∈ wsX20, w ∈ wsL_law := fun _ h => List.mem_append_left _ (List.mem_append_left _ (List.mem_append_left _ (List.mem_append_left _ (List.mem_append_left _ (List.mem_append_right _ h)))))
theorem inX2 : ∀ w ∈ wsX20, w ∈ lw_tbl := fun w h => wsL_law_in w (inlX2 w h)
theorem inlX3 : ∀ w ∈ wsX30, w ∈ wsL_law := fun _ h => List.mem_append_left _ (List.mem_append_right _ h)
theorem inX3 : ∀ w ∈ wsX30, w ∈ lw_tbl := fun w h => wsL_law_in w (inlX3 w h)
theorem inlX4 : ∀ w ∈ wsX40, w ∈ wsL_law := fun _ h => List.mem_append_left _ (List.mem_append_left _ (List.mem_append_left _ (List.mem_append_left _ (List.mem_append_right _ h))))
theorem inX4 : ∀ w ∈ wsX40, w ∈ lw_tbl := fun w h => wsL_law_in w (inlX4 w h)
theorem inlX5 : ∀ w ∈ wsX50, w ∈ wsL_law := fun _ h => List.mem_append_left _ (List.mem_append_left _ (List.mem_append_left _ (List.mem_append_right _ h)))
theorem inX5 : ∀ w ∈ wsX50, w ∈ lw_tbl := fun w h => wsL_law_in w (inlX5 w h)
theorem inlX6 : ∀ w ∈ wsX60, w ∈ wsL_law := fun _ h => List.mem_append_left _ (List.mem_append_left _ (List.mem_append_left _ (List.mem_append_left _ (List.mem_append_left _ (List.mem_append_left _ (List.mem_append_left _ (List.mem_append_right _ h)))))))
theorem inX6 : ∀ w ∈ wsX60, w ∈ lw_tbl := fun w h => wsL_law_in w (inlX6 w h)
theorem inlX7 : ∀ w ∈ wsX70, w ∈ wsL_law := fun _ h => List.mem_append_left _ (List.mem_append_left _ (List.mem_append_left _ (List.mem_append_left _ (List.mem_append_left _ (List.mem_append_left _ (List.mem_append_right _ h))))))
theorem inX7 : ∀ w ∈ wsX70, w ∈ lw_tbl := fun w h => wsL_law_in w (inlX7 w h)
theorem inJ9 : ∀ w ∈ wsJ90, w ∈ lw_tbl := by decide +kernel
abbrev vwCl : List vw_C := [(RX1, TX1, 3), (RX2, TX2, 7), (RX3, TX3, 3), (RX4, TX4, 13), (RX5, TX5, 2), (RX6, TX6, 6), (RX7, TX7, 7)]
end
section
set_option maxRecDepth 20000 in
theorem ggX0_faultOf_X5_signAt : GoodIn wsX0_faultOf wsX5_signAt := goodIn_r _ [6, 7, 8, 22, 23] (by decide +kernel) (by decide +kernel)
set_option maxRecDepth 20000 in
theorem gX0_faultOf_X5_signAt : GoodIn wsX0_faultOf (wsV RX0 17 RX5 yX5_signAt wsX5_signAt) := goodIn_app (goodIn_of _ (by decide +kernel)) ggX0_faultOf_X5_signAt
set_option maxRecDepth 20000 in
theorem ggX0_faultOf_X0_stateAfter : GoodIn wsX0_faultOf wsX0_stateAfter := goodIn_r _ [12, 13, 14, 11, 15, 16, 17, 18, 19, 20, 21] (by decide +kernel) (by decide +kernel)
set_option maxRecDepth 20000 in
theorem gX0_faultOf_X0_stateAfter : GoodIn wsX0_faultOf (va_wsS RX0 21 yX0_stateAfter wsX0_stateAfter) := goodIn_app (goodIn_of _ (by decide +kernel)) ggX0_faultOf_X0_stateAfter
set_option maxRecDepth 20000 in
theorem ggX0_faultOf_X0_mayEnd : GoodIn wsX0_faultOf wsX0_mayEnd := goodIn_r _ [15] (by decide +kernel) (by decide +kernel)
set_option maxRecDepth 20000 in
theorem gX0_faultOf_X0_mayEnd : GoodIn wsX0_faultOf (va_wsS RX0 25 yX0_mayEnd wsX0_mayEnd) := goodIn_app (goodIn_of _ (by decide +kernel)) ggX0_faultOf_X0_mayEnd
theorem dX0_faultOf_0 : decode cX0_faultOf 0 = .ok (.iconst 1, 1) := by decide +kernel
theorem dX0_faultOf_1 : decode cX0_faultOf 1 = .ok (.istore_n 1, 1) := by decide +kernel
theorem dX0_faultOf_2 : decode cX0_faultOf 2 = .ok (.iconst 0, 1) := by decide +kernel
theorem dX0_faultOf_3 : decode cX0_faultOf 3 = .ok (.istore_n 2, 1) := by decide +kernel
theorem dX0_faultOf_4 : decode cX0_faultOf 4 = .ok (.iload_n 2, 1) := by decide +kernel
theorem dX0_faultOf_5 : decode cX0_faultOf 5 = .ok (.aload_n 0, 1) := by decide +kernel
theorem dX0_faultOf_6 : decode cX0_faultOf 6 = .ok (.getfield 11, 3) := by decide +kernel
theorem dX0_faultOf_9 : decode cX0_faultOf 9 = .ok (.if_icmp .ge 25, 3) := by decide +kernel
theorem dX0_faultOf_12 : decode cX0_faultOf 12 = .ok (.iload_n 1, 1) := by decide +kernel
theorem dX0_faultOf_13 : decode cX0_faultOf 13 = .ok (.aload_n 0, 1) := by decide +kernel
theorem dX0_faultOf_14 : decode cX0_faultOf 14 = .ok (.iload_n 2, 1) := by decide +kernel
theorem dX0_faultOf_15 : decode cX0_faultOf 15 = .ok (.invokevirtual 17, 3) := by decide +kernel
theorem dX0_faultOf_18 : decode cX0_faultOf 18 = .ok (.invokestatic 21, 3) := by decide +kernel
theorem dX0_faultOf_21 : decode cX0_faultOf 21 = .ok (.istore_n 1, 1) := by decide +kernel
theorem dX0_faultOf_22 : decode cX0_faultOf 22 = .ok (.iload_n 1, 1) := by decide +kernel
theorem dX0_faultOf_23 : decode cX0_faultOf 23 = .ok (.ifCond .ne 5, 3) := by decide +kernel
theorem dX0_faultOf_26 : decode cX0_faultOf 26 = .ok (.iload_n 2, 1) := by decide +kernel
theorem dX0_faultOf_27 : decode cX0_faultOf 27 = .ok (.ireturn, 1) := by decide +kernel
theorem dX0_faultOf_28 : decode cX0_faultOf 28 = .ok (.iinc 2 1, 3) := by decide +kernel
theorem dX0_faultOf_31 : decode cX0_faultOf 31 = .ok (.goto (-27), 3) := by decide +kernel
theorem dX0_faultOf_34 : decode cX0_faultOf 34 = .ok (.iload_n 1, 1) := by decide +kernel
theorem dX0_faultOf_35 : decode cX0_faultOf 35 = .ok (.invokestatic 25, 3) := by decide +kernel
theorem dX0_faultOf_38 : decode cX0_faultOf 38 = .ok (.ifCond .eq 8, 3) := by decide +kernel
theorem dX0_faultOf_41 : decode cX0_faultOf 41 = .ok (.bipush (-6), 2) := by decide +kernel
theorem dX0_faultOf_43 : decode cX0_faultOf 43 = .ok (.goto 7, 3) := by decide +kernel
theorem dX0_faultOf_46 : decode cX0_faultOf 46 = .ok (.aload_n 0, 1) := by decide +kernel
theorem dX0_faultOf_47 : decode cX0_faultOf 47 = .ok (.getfield 11, 3) := by decide +kernel
theorem dX0_faultOf_50 : decode cX0_faultOf 50 = .ok (.ireturn, 1) := by decide +kernel
set_option maxRecDepth 20000 in
theorem ggX0_stateAfter_X0_mayEnd : GoodIn wsX0_stateAfter wsX0_mayEnd := goodIn_r _ [4] (by decide +kernel) (by decide +kernel)
set_option maxRecDepth 20000 in
theorem gX0_stateAfter_X0_mayEnd : GoodIn wsX0_stateAfter (va_wsS RX0 25 yX0_mayEnd wsX0_mayEnd) := goodIn_app (goodIn_of _ (by decide +kernel)) ggX0_stateAfter_X0_mayEnd
set_option maxRecDepth 20000 in
theorem ggX0_stateAfter_X0_stateAfterName : GoodIn wsX0_stateAfter wsX0_stateAfterName := goodIn_r _ [7] (by decide +kernel) (by decide +kernel)
set_option maxRecDepth 20000 in
theorem gX0_stateAfter_X0_stateAfterName : GoodIn wsX0_stateAfter (va_wsS RX0 29 yX0_stateAfterName wsX0_stateAfterName) := goodIn_app (goodIn_of _ (by decide +kernel)) ggX0_stateAfter_X0_stateAfterName
set_option maxRecDepth 20000 in
theorem ggX0_stateAfter_X0_ifDigit : GoodIn wsX0_stateAfter wsX0_ifDigit := goodIn_r _ [10] (by decide +kernel) (by decide +kernel)
set_option maxRecDepth 20000 in
theorem gX0_stateAfter_X0_ifDigit : GoodIn wsX0_stateAfter (va_wsS RX0 32 yX0_ifDigit wsX0_ifDigit) := goodIn_app (goodIn_of _ (by decide +kernel)) ggX0_stateAfter_X0_ifDigit
theorem dX0_stateAfter_0 : decode cX0_stateAfter 0 = .ok (.iload_n 1, 1) := by decide +kernel
theorem dX0_stateAfter_1 : decode cX0_stateAfter 1 = .ok (.bipush 59, 2) := by decide +kernel
theorem dX0_stateAfter_3 : decode cX0_stateAfter 3 = .ok (.if_icmp .ne 16, 3) := by decide +kernel
theorem dX0_stateAfter_6 : decode cX0_stateAfter 6 = .ok (.iload_n 0, 1) := by decide +kernel
theorem dX0_stateAfter_7 : decode cX0_stateAfter 7 = .ok (.invokestatic 25, 3) := by decide +kernel
theorem dX0_stateAfter_10 : decode cX0_stateAfter 10 = .ok (.ifCond .eq 7, 3) := by decide +kernel
theorem dX0_stateAfter_13 : decode cX0_stateAfter 13 = .ok (.iconst 1, 1) := by decide +kernel
theorem dX0_stateAfter_14 : decode cX0_stateAfter 14 = .ok (.goto 4, 3) := by decide +kernel
theorem dX0_stateAfter_17 : decode cX0_stateAfter 17 = .ok (.iconst 0, 1) := by decide +kernel
theorem dX0_stateAfter_18 : decode cX0_stateAfter 18 = .ok (.ireturn, 1) := by decide +kernel
theorem dX0_stateAfter_19 : decode cX0_stateAfter 19 = .ok (.iload_n 0, 1) := by decide +kernel
theorem dX0_stateAfter_20 : decode cX0_stateAfter 20 = .ok (.tableswitch 128 1 9 #[52, 114, 57, 63, 75, 93, 100, 107, 121], 52) := by decide +kernel
theorem dX0_stateAfter_72 : decode cX0_stateAfter 72 = .ok (.iload_n 1, 1) := by decide +kernel
theorem dX0_stateAfter_73 : decode cX0_stateAfter 73 = .ok (.invokestatic 29, 3) := by decide +kernel
theorem dX0_stateAfter_76 : decode cX0_stateAfter 76 = .ok (.ireturn, 1) := by decide +kernel
theorem dX0_stateAfter_77 : decode cX0_stateAfter 77 = .ok (.iload_n 1, 1) := by decide +kernel
theorem dX0_stateAfter_78 : decode cX0_stateAfter 78 = .ok (.iconst 4, 1) := by decide +kernel
theorem dX0_stateAfter_79 : decode cX0_stateAfter 79 = .ok (.invokestatic 32, 3) := by decide +kernel
theorem dX0_stateAfter_82 : decode cX0_stateAfter 82 = .ok (.ireturn, 1) := by decide +kernel
theorem dX0_stateAfter_83 : decode cX0_stateAfter 83 = .ok (.iload_n 1, 1) := by decide +kernel
theorem dX0_stateAfter_84 : decode cX0_stateAfter 84 = .ok (.bipush 61, 2) := by decide +kernel
theorem dX0_stateAfter_86 : decode cX0_stateAfter 86 = .ok (.if_icmp .ne 7, 3) := by decide +kernel
theorem dX0_stateAfter_89 : decode cX0_stateAfter 89 = .ok (.iconst 5, 1) := by decide +kernel
theorem dX0_stateAfter_90 : decode cX0_stateAfter 90 = .ok (.goto 4, 3) := by decide +kernel
theorem dX0_stateAfter_93 : decode cX0_stateAfter 93 = .ok (.iconst 0, 1) := by decide +kernel
theorem dX0_stateAfter_94 : decode cX0_stateAfter 94 = .ok (.ireturn, 1) := by decide +kernel
theorem dX0_stateAfter_95 : decode cX0_stateAfter 95 = .ok (.iload_n 1, 1) := by decide +kernel
theorem dX0_stateAfter_96 : decode cX0_stateAfter 96 = .ok (.bipush 48, 2) := by decide +kernel
theorem dX0_stateAfter_98 : decode cX0_stateAfter 98 = .ok (.if_icmp .ne 8, 3) := by decide +kernel
theorem dX0_stateAfter_101 : decode cX0_stateAfter 101 = .ok (.bipush 10, 2) := by decide +kernel
theorem dX0_stateAfter_103 : decode cX0_stateAfter 103 = .ok (.goto 9, 3) := by decide +kernel
theorem dX0_stateAfter_106 : decode cX0_stateAfter 106 = .ok (.iload_n 1, 1) := by decide +kernel
theorem dX0_stateAfter_107 : decode cX0_stateAfter 107 = .ok (.bipush 6, 2) := by decide +kernel
theorem dX0_stateAfter_109 : decode cX0_stateAfter 109 = .ok (.invokestatic 32, 3) := by decide +kernel
theorem dX0_stateAfter_112 : decode cX0_stateAfter 112 = .ok (.ireturn, 1) := by decide +kernel
theorem dX0_stateAfter_113 : decode cX0_stateAfter 113 = .ok (.iload_n 1, 1) := by decide +kernel
theorem dX0_stateAfter_114 : decode cX0_stateAfter 114 = .ok (.bipush 7, 2) := by decide +kernel
theorem dX0_stateAfter_116 : decode cX0_stateAfter 116 = .ok (.invokestatic 32, 3) := by decide +kernel
theorem dX0_stateAfter_119 : decode cX0_stateAfter 119 = .ok (.ireturn, 1) := by decide +kernel
theorem dX0_stateAfter_120 : decode cX0_stateAfter 120 = .ok (.iload_n 1, 1) := by decide +kernel
theorem dX0_stateAfter_121 : decode cX0_stateAfter 121 = .ok (.bipush 8, 2) := by decide +kernel
theorem dX0_stateAfter_123 : decode cX0_stateAfter 123 = .ok (.invokestatic 32, 3) := by decide +kernel
theorem dX0_stateAfter_126 : decode cX0_stateAfter 126 = .ok (.ireturn, 1) := by decide +kernel
theorem dX0_stateAfter_127 : decode cX0_stateAfter 127 = .ok (.iload_n 1, 1) := by decide +kernel
theorem dX0_stateAfter_128 : decode cX0_stateAfter 128 = .ok (.bipush 10, 2) := by decide +kernel
theorem dX0_stateAfter_130 : decode cX0_stateAfter 130 = .ok (.invokestatic 32, 3) := by decide +kernel
theorem dX0_stateAfter_133 : decode cX0_stateAfter 133 = .ok (.ireturn, 1) := by decide +kernel
theorem dX0_stateAfter_134 : decode cX0_stateAfter 134 = .ok (.iload_n 1, 1) := by decide +kernel
theorem dX0_stateAfter_135 : decode cX0_stateAfter 135 = .ok (.bipush 10, 2) := by decide +kernel
theorem dX0_stateAfter_137 : decode cX0_stateAfter 137 = .ok (.invokestatic 32, 3) := by decide +kernel
theorem dX0_stateAfter_140 : decode cX0_stateAfter 140 = .ok (.ireturn, 1) := by decide +kernel
theorem dX0_stateAfter_141 : decode cX0_stateAfter 141 = .ok (.iload_n 1, 1) := by decide +kernel
theorem dX0_stateAfter_142 : decode cX0_stateAfter 142 = .ok (.bipush 10, 2) := by decide +kernel
theorem dX0_stateAfter_144 : decode cX0_stateAfter 144 = .ok (.invokestatic 32, 3) := by decide +kernel
theorem dX0_stateAfter_147 : decode cX0_stateAfter 147 = .ok (.ireturn, 1) := by decide +kernel
theorem dX0_stateAfter_148 : decode cX0_stateAfter 148 = .ok (.iconst 0, 1) := by decide +kernel
theorem dX0_stateAfter_149 : decode cX0_stateAfter 149 = .ok (.ireturn, 1) := by decide +kernel
theorem dX0_stateAfterName_0 : decode cX0_stateAfterName 0 = .ok (.iload_n 0, 1) := by decide +kernel
theorem dX0_stateAfterName_1 : decode cX0_stateAfterName 1 = .ok (.lookupswitch 73 #[(98, 67), (108, 61), (109, 59), (115, 63), (116, 65), (118, 70)], 59) := by decide +kernel
theorem dX0_stateAfterName_60 : decode cX0_stateAfterName 60 = .ok (.iconst 2, 1) := by decide +kernel
theorem dX0_stateAfterName_61 : decode cX0_stateAfterName 61 = .ok (.ireturn, 1) := by decide +kernel
theorem dX0_stateAfterName_62 : decode cX0_stateAfterName 62 = .ok (.iconst 3, 1) := by decide +kernel
theorem dX0_stateAfterName_63 : decode cX0_stateAfterName 63 = .ok (.ireturn, 1) := by decide +kernel
theorem dX0_stateAfterName_64 : decode cX0_stateAfterName 64 = .ok (.iconst 5, 1) := by decide +kernel
theorem dX0_stateAfterName_65 : decode cX0_stateAfterName 65 = .ok (.ireturn, 1) := by decide +kernel
theorem dX0_stateAfterName_66 : decode cX0_stateAfterName 66 = .ok (.iconst 5, 1) := by decide +kernel
theorem dX0_stateAfterName_67 : decode cX0_stateAfterName 67 = .ok (.ireturn, 1) := by decide +kernel
theorem dX0_stateAfterName_68 : decode cX0_stateAfterName 68 = .ok (.bipush 9, 2) := by decide +kernel
theorem dX0_stateAfterName_70 : decode cX0_stateAfterName 70 = .ok (.ireturn, 1) := by decide +kernel
theorem dX0_stateAfterName_71 : decode cX0_stateAfterName 71 = .ok (.bipush 9, 2) := by decide +kernel
theorem dX0_stateAfterName_73 : decode cX0_stateAfterName 73 = .ok (.ireturn, 1) := by decide +kernel
theorem dX0_stateAfterName_74 : decode cX0_stateAfterName 74 = .ok (.iconst 0, 1) := by decide +kernel
theorem dX0_stateAfterName_75 : decode cX0_stateAfterName 75 = .ok (.ireturn, 1) := by decide +kernel
theorem dX0_ifDigit_0 : decode cX0_ifDigit 0 = .ok (.iload_n 0, 1) := by decide +kernel
theorem dX0_ifDigit_1 : decode cX0_ifDigit 1 = .ok (.bipush 48, 2) := by decide +kernel
theorem dX0_ifDigit_3 : decode cX0_ifDigit 3 = .ok (.if_icmp .lt 13, 3) := by decide +kernel
theorem dX0_ifDigit_6 : decode cX0_ifDigit 6 = .ok (.iload_n 0, 1) := by decide +kernel
theorem dX0_ifDigit_7 : decode cX0_ifDigit 7 = .ok (.bipush 57, 2) := by decide +kernel
theorem dX0_ifDigit_9 : decode cX0_ifDigit 9 = .ok (.if_icmp .gt 7, 3) := by decide +kernel
theorem dX0_ifDigit_12 : decode cX0_ifDigit 12 = .ok (.iload_n 1, 1) := by decide +kernel
theorem dX0_ifDigit_13 : decode cX0_ifDigit 13 = .ok (.goto 4, 3) := by decide +kernel
theorem dX0_ifDigit_16 : decode cX0_ifDigit 16 = .ok (.iconst 0, 1) := by decide +kernel
theorem dX0_ifDigit_17 : decode cX0_ifDigit 17 = .ok (.ireturn, 1) := by decide +kernel
theorem dX0_mayEnd_0 : decode cX0_mayEnd 0 = .ok (.iload_n 0, 1) := by decide +kernel
theorem dX0_mayEnd_1 : decode cX0_mayEnd 1 = .ok (.tableswitch 53 2 10 #[51, 53, 53, 53, 51, 51, 51, 53, 51], 51) := by decide +kernel
theorem dX0_mayEnd_52 : decode cX0_mayEnd 52 = .ok (.iconst 1, 1) := by decide +kernel
theorem dX0_mayEnd_53 : decode cX0_mayEnd 53 = .ok (.ireturn, 1) := by decide +kernel
theorem dX0_mayEnd_54 : decode cX0_mayEnd 54 = .ok (.iconst 0, 1) := by decide +kernel
theorem dX0_mayEnd_55 : decode cX0_mayEnd 55 = .ok (.ireturn, 1) := by decide +kernel
set_option maxRecDepth 20000 in
theorem ggX1_init_X2_init : GoodIn wsX1_init wsX2_init := goodIn_r _ [12, 13, 2, 3, 14, 15, 16, 17, 18, 19, 20, 21, 22, 23, 24, 25, 26, 27, 28, 29, 30, 31, 32, 33, 34, 35, 36, 37, 38, 39, 40, 41, 42, 43, 44, 45, 46, 47, 48, 49, 50, 51, 52, 53, 54, 55, 59, 60, 61, 62, 63, 64, 65, 66, 67, 68, 69, 70, 71, 72, 73, 74, 75, 76, 77, 78, 79, 80, 81] (by decide +kernel) (by decide +kernel)
set_option maxRecDepth 20000 in
theorem gX1_init_X2_init : GoodIn wsX1_init (wsX2_init) := ggX1_init_X2_init
theorem dX1_init_0 : decode cX1_init 0 = .ok (.aload_n 0, 1) := by decide +kernel
theorem dX1_init_1 : decode cX1_init 1 = .ok (.invokespecial 3, 3) := by decide +kernel
theorem dX1_init_4 : decode cX1_init 4 = .ok (.aload_n 0, 1) := by decide +kernel
theorem dX1_init_5 : decode cX1_init 5 = .ok (.bipush 7, 2) := by decide +kernel
theorem dX1_init_7 : decode cX1_init 7 = .ok (.anewarray 11, 3) := by decide +kernel
theorem dX1_init_10 : decode cX1_init 10 = .ok (.putfield 13, 3) := by decide +kernel
theorem dX1_init_13 : decode cX1_init 13 = .ok (.iconst 0, 1) := by decide +kernel
theorem dX1_init_14 : decode cX1_init 14 = .ok (.istore_n 1, 1) := by decide +kernel
theorem dX1_init_15 : decode cX1_init 15 = .ok (.iload_n 1, 1) := by decide +kernel
theorem dX1_init_16 : decode cX1_init 16 = .ok (.bipush 7, 2) := by decide +kernel
theorem dX1_init_18 : decode cX1_init 18 = .ok (.if_icmp .ge 22, 3) := by decide +kernel
theorem dX1_init_21 : decode cX1_init 21 = .ok (.aload_n 0, 1) := by decide +kernel
theorem dX1_init_22 : decode cX1_init 22 = .ok (.getfield 13, 3) := by decide +kernel
theorem dX1_init_25 : decode cX1_init 25 = .ok (.iload_n 1, 1) := by decide +kernel
theorem dX1_init_26 : decode cX1_init 26 = .ok (.new 11, 3) := by decide +kernel
theorem dX1_init_29 : decode cX1_init 29 = .ok (.dup, 1) := by decide +kernel
theorem dX1_init_30 : decode cX1_init 30 = .ok (.invokespecial 17, 3) := by decide +kernel
theorem dX1_init_33 : decode cX1_init 33 = .ok (.aastore, 1) := by decide +kernel
theorem dX1_init_34 : decode cX1_init 34 = .ok (.iinc 1 1, 3) := by decide +kernel
theorem dX1_init_37 : decode cX1_init 37 = .ok (.goto (-22), 3) := by decide +kernel
theorem dX1_init_40 : decode cX1_init 40 = .ok (.aload_n 0, 1) := by decide +kernel
theorem dX1_init_41 : decode cX1_init 41 = .ok (.iconst 0, 1) := by decide +kernel
theorem dX1_init_42 : decode cX1_init 42 = .ok (.putfield 18, 3) := by decide +kernel
theorem dX1_init_45 : decode cX1_init 45 = .ok (.aload_n 0, 1) := by decide +kernel
theorem dX1_init_46 : decode cX1_init 46 = .ok (.iconst 0, 1) := by decide +kernel
theorem dX1_init_47 : decode cX1_init 47 = .ok (.putfield 22, 3) := by decide +kernel
theorem dX1_init_50 : decode cX1_init 50 = .ok (.return_, 1) := by decide +kernel
set_option maxRecDepth 20000 in
theorem ggX1_prepare_X2_copyFrom : GoodIn wsX1_prepare wsX2_copyFrom := goodIn_r _ [7, 8, 9, 10, 11, 12, 13, 14, 15, 16, 17, 18, 19, 20, 21, 22, 23, 24, 25, 26, 27, 28, 29, 30, 31, 32, 33, 34, 35, 36, 37, 38, 39, 40, 44, 45, 46, 47, 48, 49, 50, 51, 52, 53, 54, 55, 56, 57, 58, 59, 60, 61, 62, 63, 64, 65, 66] (by decide +kernel) (by decide +kernel)
set_option maxRecDepth 20000 in
theorem gX1_prepare_X2_copyFrom : GoodIn wsX1_prepare (wsV RX1 25 RX2 yX2_copyFrom wsX2_copyFrom) := goodIn_app (goodIn_of _ (by decide +kernel)) ggX1_prepare_X2_copyFrom
theorem dX1_prepare_0 : decode cX1_prepare 0 = .ok (.aload_n 0, 1) := by decide +kernel
theorem dX1_prepare_1 : decode cX1_prepare 1 = .ok (.getfield 13, 3) := by decide +kernel
theorem dX1_prepare_4 : decode cX1_prepare 4 = .ok (.aload_n 0, 1) := by decide +kernel
theorem dX1_prepare_5 : decode cX1_prepare 5 = .ok (.getfield 18, 3) := by decide +kernel
theorem dX1_prepare_8 : decode cX1_prepare 8 = .ok (.aaload, 1) := by decide +kernel
theorem dX1_prepare_9 : decode cX1_prepare 9 = .ok (.aload_n 1, 1) := by decide +kernel
theorem dX1_prepare_10 : decode cX1_prepare 10 = .ok (.invokevirtual 25, 3) := by decide +kernel
theorem dX1_prepare_13 : decode cX1_prepare 13 = .ok (.return_, 1) := by decide +kernel
theorem dX1_settle_0 : decode cX1_settle 0 = .ok (.iload_n 1, 1) := by decide +kernel
theorem dX1_settle_1 : decode cX1_settle 1 = .ok (.ifCond .lt 31, 3) := by decide +kernel
theorem dX1_settle_4 : decode cX1_settle 4 = .ok (.aload_n 0, 1) := by decide +kernel
theorem dX1_settle_5 : decode cX1_settle 5 = .ok (.aload_n 0, 1) := by decide +kernel
theorem dX1_settle_6 : decode cX1_settle 6 = .ok (.getfield 18, 3) := by decide +kernel
theorem dX1_settle_9 : decode cX1_settle 9 = .ok (.iconst 1, 1) := by decide +kernel
theorem dX1_settle_10 : decode cX1_settle 10 = .ok (.iadd, 1) := by decide +kernel
theorem dX1_settle_11 : decode cX1_settle 11 = .ok (.bipush 7, 2) := by decide +kernel
theorem dX1_settle_13 : decode cX1_settle 13 = .ok (.irem, 1) := by decide +kernel
theorem dX1_settle_14 : decode cX1_settle 14 = .ok (.putfield 18, 3) := by decide +kernel
theorem dX1_settle_17 : decode cX1_settle 17 = .ok (.aload_n 0, 1) := by decide +kernel
theorem dX1_settle_18 : decode cX1_settle 18 = .ok (.bipush 6, 2) := by decide +kernel
theorem dX1_settle_20 : decode cX1_settle 20 = .ok (.aload_n 0, 1) := by decide +kernel
theorem dX1_settle_21 : decode cX1_settle 21 = .ok (.getfield 22, 3) := by decide +kernel
theorem dX1_settle_24 : decode cX1_settle 24 = .ok (.iconst 1, 1) := by decide +kernel
theorem dX1_settle_25 : decode cX1_settle 25 = .ok (.iadd, 1) := by decide +kernel
theorem dX1_settle_26 : decode cX1_settle 26 = .ok (.invokestatic 29, 3) := by decide +kernel
theorem dX1_settle_29 : decode cX1_settle 29 = .ok (.putfield 22, 3) := by decide +kernel
theorem dX1_settle_32 : decode cX1_settle 32 = .ok (.iload_n 1, 1) := by decide +kernel
theorem dX1_settle_33 : decode cX1_settle 33 = .ok (.ireturn, 1) := by decide +kernel
theorem dX1_takeLatest_0 : decode cX1_takeLatest 0 = .ok (.aload_n 0, 1) := by decide +kernel
theorem dX1_takeLatest_1 : decode cX1_takeLatest 1 = .ok (.dup, 1) := by decide +kernel
theorem dX1_takeLatest_2 : decode cX1_takeLatest 2 = .ok (.getfield 22, 3) := by decide +kernel
theorem dX1_takeLatest_5 : decode cX1_takeLatest 5 = .ok (.iconst 1, 1) := by decide +kernel
theorem dX1_takeLatest_6 : decode cX1_takeLatest 6 = .ok (.isub, 1) := by decide +kernel
theorem dX1_takeLatest_7 : decode cX1_takeLatest 7 = .ok (.putfield 22, 3) := by decide +kernel
theorem dX1_takeLatest_10 : decode cX1_takeLatest 10 = .ok (.aload_n 0, 1) := by decide +kernel
theorem dX1_takeLatest_11 : decode cX1_takeLatest 11 = .ok (.aload_n 0, 1) := by decide +kernel
theorem dX1_takeLatest_12 : decode cX1_takeLatest 12 = .ok (.getfield 18, 3) := by decide +kernel
theorem dX1_takeLatest_15 : decode cX1_takeLatest 15 = .ok (.bipush 6, 2) := by decide +kernel
theorem dX1_takeLatest_17 : decode cX1_takeLatest 17 = .ok (.iadd, 1) := by decide +kernel
theorem dX1_takeLatest_18 : decode cX1_takeLatest 18 = .ok (.bipush 7, 2) := by decide +kernel
theorem dX1_takeLatest_20 : decode cX1_takeLatest 20 = .ok (.irem, 1) := by decide +kernel
theorem dX1_takeLatest_21 : decode cX1_takeLatest 21 = .ok (.putfield 18, 3) := by decide +kernel
theorem dX1_takeLatest_24 : decode cX1_takeLatest 24 = .ok (.aload_n 0, 1) := by decide +kernel
theorem dX1_takeLatest_25 : decode cX1_takeLatest 25 = .ok (.getfield 13, 3) := by decide +kernel
theorem dX1_takeLatest_28 : decode cX1_takeLatest 28 = .ok (.aload_n 0, 1) := by decide +kernel
theorem dX1_takeLatest_29 : decode cX1_takeLatest 29 = .ok (.getfield 18, 3) := by decide +kernel
theorem dX1_takeLatest_32 : decode cX1_takeLatest 32 = .ok (.aaload, 1) := by decide +kernel
theorem dX1_takeLatest_33 : decode cX1_takeLatest 33 = .ok (.areturn, 1) := by decide +kernel
set_option maxRecDepth 20000 in
theorem ggX2_init_X4_init : GoodIn wsX2_init wsX4_init := goodIn_r _ [16, 17, 2, 3, 18, 19, 20, 11, 21, 22, 23, 24, 25, 26, 27, 28, 29, 30, 31, 32, 33, 34, 53, 54, 55, 56, 57, 58, 59, 60, 61, 62, 63, 64, 65] (by decide +kernel) (by decide +kernel)
set_option maxRecDepth 20000 in
theorem gX2_init_X4_init : GoodIn wsX2_init (wsX4_init) := ggX2_init_X4_init
set_option maxRecDepth 20000 in
theorem ggX2_init_X3_init : GoodIn wsX2_init wsX3_init := goodIn_r _ [37, 38, 2, 3, 39, 40, 41, 13, 42, 43, 44, 45, 66, 67, 68] (by decide +kernel) (by decide +kernel)
set_option maxRecDepth 20000 in
theorem gX2_init_X3_init : GoodIn wsX2_init (wsX3_init) := ggX2_init_X3_init
theorem dX2_init_0 : decode cX2_init 0 = .ok (.aload_n 0, 1) := by decide +kernel
theorem dX2_init_1 : decode cX2_init 1 = .ok (.invokespecial 3, 3) := by decide +kernel
theorem dX2_init_4 : decode cX2_init 4 = .ok (.aload_n 0, 1) := by decide +kernel
theorem dX2_init_5 : decode cX2_init 5 = .ok (.bipush 6, 2) := by decide +kernel
theorem dX2_init_7 : decode cX2_init 7 = .ok (.newarray .int, 2) := by decide +kernel
theorem dX2_init_9 : decode cX2_init 9 = .ok (.putfield 9, 3) := by decide +kernel
theorem dX2_init_12 : decode cX2_init 12 = .ok (.aload_n 0, 1) := by decide +kernel
theorem dX2_init_13 : decode cX2_init 13 = .ok (.bipush 7, 2) := by decide +kernel
theorem dX2_init_15 : decode cX2_init 15 = .ok (.anewarray 15, 3) := by decide +kernel
theorem dX2_init_18 : decode cX2_init 18 = .ok (.putfield 17, 3) := by decide +kernel
theorem dX2_init_21 : decode cX2_init 21 = .ok (.aload_n 0, 1) := by decide +kernel
theorem dX2_init_22 : decode cX2_init 22 = .ok (.bipush 12, 2) := by decide +kernel
theorem dX2_init_24 : decode cX2_init 24 = .ok (.anewarray 21, 3) := by decide +kernel
theorem dX2_init_27 : decode cX2_init 27 = .ok (.putfield 23, 3) := by decide +kernel
theorem dX2_init_30 : decode cX2_init 30 = .ok (.iconst 0, 1) := by decide +kernel
theorem dX2_init_31 : decode cX2_init 31 = .ok (.istore_n 1, 1) := by decide +kernel
theorem dX2_init_32 : decode cX2_init 32 = .ok (.iload_n 1, 1) := by decide +kernel
theorem dX2_init_33 : decode cX2_init 33 = .ok (.bipush 6, 2) := by decide +kernel
theorem dX2_init_35 : decode cX2_init 35 = .ok (.if_icmp .ge 20, 3) := by decide +kernel
theorem dX2_init_38 : decode cX2_init 38 = .ok (.aload_n 0, 1) := by decide +kernel
theorem dX2_init_39 : decode cX2_init 39 = .ok (.getfield 9, 3) := by decide +kernel
theorem dX2_init_42 : decode cX2_init 42 = .ok (.iload_n 1, 1) := by decide +kernel
theorem dX2_init_43 : decode cX2_init 43 = .ok (.getstatic 27, 3) := by decide +kernel
theorem dX2_init_46 : decode cX2_init 46 = .ok (.iload_n 1, 1) := by decide +kernel
theorem dX2_init_47 : decode cX2_init 47 = .ok (.iaload, 1) := by decide +kernel
theorem dX2_init_48 : decode cX2_init 48 = .ok (.iastore, 1) := by decide +kernel
theorem dX2_init_49 : decode cX2_init 49 = .ok (.iinc 1 1, 3) := by decide +kernel
theorem dX2_init_52 : decode cX2_init 52 = .ok (.goto (-20), 3) := by decide +kernel
theorem dX2_init_55 : decode cX2_init 55 = .ok (.iconst 0, 1) := by decide +kernel
theorem dX2_init_56 : decode cX2_init 56 = .ok (.istore_n 1, 1) := by decide +kernel
theorem dX2_init_57 : decode cX2_init 57 = .ok (.iload_n 1, 1) := by decide +kernel
theorem dX2_init_58 : decode cX2_init 58 = .ok (.bipush 7, 2) := by decide +kernel
theorem dX2_init_60 : decode cX2_init 60 = .ok (.if_icmp .ge 22, 3) := by decide +kernel
theorem dX2_init_63 : decode cX2_init 63 = .ok (.aload_n 0, 1) := by decide +kernel
theorem dX2_init_64 : decode cX2_init 64 = .ok (.getfield 17, 3) := by decide +kernel
theorem dX2_init_67 : decode cX2_init 67 = .ok (.iload_n 1, 1) := by decide +kernel
theorem dX2_init_68 : decode cX2_init 68 = .ok (.new 15, 3) := by decide +kernel
theorem dX2_init_71 : decode cX2_init 71 = .ok (.dup, 1) := by decide +kernel
theorem dX2_init_72 : decode cX2_init 72 = .ok (.invokespecial 30, 3) := by decide +kernel
theorem dX2_init_75 : decode cX2_init 75 = .ok (.aastore, 1) := by decide +kernel
theorem dX2_init_76 : decode cX2_init 76 = .ok (.iinc 1 1, 3) := by decide +kernel
theorem dX2_init_79 : decode cX2_init 79 = .ok (.goto (-22), 3) := by decide +kernel
theorem dX2_init_82 : decode cX2_init 82 = .ok (.iconst 0, 1) := by decide +kernel
theorem dX2_init_83 : decode cX2_init 83 = .ok (.istore_n 1, 1) := by decide +kernel
theorem dX2_init_84 : decode cX2_init 84 = .ok (.iload_n 1, 1) := by decide +kernel
theorem dX2_init_85 : decode cX2_init 85 = .ok (.bipush 12, 2) := by decide +kernel
theorem dX2_init_87 : decode cX2_init 87 = .ok (.if_icmp .ge 22, 3) := by decide +kernel
theorem dX2_init_90 : decode cX2_init 90 = .ok (.aload_n 0, 1) := by decide +kernel
theorem dX2_init_91 : decode cX2_init 91 = .ok (.getfield 23, 3) := by decide +kernel
theorem dX2_init_94 : decode cX2_init 94 = .ok (.iload_n 1, 1) := by decide +kernel
theorem dX2_init_95 : decode cX2_init 95 = .ok (.new 21, 3) := by decide +kernel
theorem dX2_init_98 : decode cX2_init 98 = .ok (.dup, 1) := by decide +kernel
theorem dX2_init_99 : decode cX2_init 99 = .ok (.invokespecial 31, 3) := by decide +kernel
theorem dX2_init_102 : decode cX2_init 102 = .ok (.aastore, 1) := by decide +kernel
theorem dX2_init_103 : decode cX2_init 103 = .ok (.iinc 1 1, 3) := by decide +kernel
theorem dX2_init_106 : decode cX2_init 106 = .ok (.goto (-22), 3) := by decide +kernel
theorem dX2_init_109 : decode cX2_init 109 = .ok (.return_, 1) := by decide +kernel
set_option maxRecDepth 20000 in
theorem ggX2_copyFrom_X4_copyFrom : GoodIn wsX2_copyFrom wsX4_copyFrom := goodIn_r _ [12, 13, 14, 15, 16, 17, 18, 19, 20, 21, 22, 23, 24, 25, 41, 42, 43, 44, 45, 46, 47, 48, 49, 50, 51, 52, 53] (by decide +kernel) (by decide +kernel)
set_option maxRecDepth 20000 in
theorem gX2_copyFrom_X4_copyFrom : GoodIn wsX2_copyFrom (wsV RX2 36 RX4 yX4_copyFrom wsX4_copyFrom) := goodIn_app (goodIn_of _ (by decide +kernel)) ggX2_copyFrom_X4_copyFrom
set_option maxRecDepth 20000 in
theorem ggX2_copyFrom_X3_copyFrom : GoodIn wsX2_copyFrom wsX3_copyFrom := goodIn_r _ [30, 31, 32, 33, 54, 55, 56] (by decide +kernel) (by decide +kernel)
set_option maxRecDepth 20000 in
theorem gX2_copyFrom_X3_copyFrom : GoodIn wsX2_copyFrom (wsV RX2 43 RX3 yX3_copyFrom wsX3_copyFrom) := goodIn_app (goodIn_of _ (by decide +kernel)) ggX2_copyFrom_X3_copyFrom
theorem dX2_copyFrom_0 : decode cX2_copyFrom 0 = .ok (.iconst 0, 1) := by decide +kernel
theorem dX2_copyFrom_1 : decode cX2_copyFrom 1 = .ok (.istore_n 2, 1) := by decide +kernel
theorem dX2_copyFrom_2 : decode cX2_copyFrom 2 = .ok (.iload_n 2, 1) := by decide +kernel
theorem dX2_copyFrom_3 : decode cX2_copyFrom 3 = .ok (.bipush 6, 2) := by decide +kernel
theorem dX2_copyFrom_5 : decode cX2_copyFrom 5 = .ok (.if_icmp .ge 21, 3) := by decide +kernel
theorem dX2_copyFrom_8 : decode cX2_copyFrom 8 = .ok (.aload_n 0, 1) := by decide +kernel
theorem dX2_copyFrom_9 : decode cX2_copyFrom 9 = .ok (.getfield 9, 3) := by decide +kernel
theorem dX2_copyFrom_12 : decode cX2_copyFrom 12 = .ok (.iload_n 2, 1) := by decide +kernel
theorem dX2_copyFrom_13 : decode cX2_copyFrom 13 = .ok (.aload_n 1, 1) := by decide +kernel
theorem dX2_copyFrom_14 : decode cX2_copyFrom 14 = .ok (.getfield 9, 3) := by decide +kernel
theorem dX2_copyFrom_17 : decode cX2_copyFrom 17 = .ok (.iload_n 2, 1) := by decide +kernel
theorem dX2_copyFrom_18 : decode cX2_copyFrom 18 = .ok (.iaload, 1) := by decide +kernel
theorem dX2_copyFrom_19 : decode cX2_copyFrom 19 = .ok (.iastore, 1) := by decide +kernel
theorem dX2_copyFrom_20 : decode cX2_copyFrom 20 = .ok (.iinc 2 1, 3) := by decide +kernel
theorem dX2_copyFrom_23 : decode cX2_copyFrom 23 = .ok (.goto (-21), 3) := by decide +kernel
theorem dX2_copyFrom_26 : decode cX2_copyFrom 26 = .ok (.iconst 0, 1) := by decide +kernel
theorem dX2_copyFrom_27 : decode cX2_copyFrom 27 = .ok (.istore_n 2, 1) := by decide +kernel
theorem dX2_copyFrom_28 : decode cX2_copyFrom 28 = .ok (.iload_n 2, 1) := by decide +kernel
theorem dX2_copyFrom_29 : decode cX2_copyFrom 29 = .ok (.aload_n 1, 1) := by decide +kernel
theorem dX2_copyFrom_30 : decode cX2_copyFrom 30 = .ok (.getfield 32, 3) := by decide +kernel
theorem dX2_copyFrom_33 : decode cX2_copyFrom 33 = .ok (.if_icmp .ge 24, 3) := by decide +kernel
theorem dX2_copyFrom_36 : decode cX2_copyFrom 36 = .ok (.aload_n 0, 1) := by decide +kernel
theorem dX2_copyFrom_37 : decode cX2_copyFrom 37 = .ok (.getfield 17, 3) := by decide +kernel
theorem dX2_copyFrom_40 : decode cX2_copyFrom 40 = .ok (.iload_n 2, 1) := by decide +kernel
theorem dX2_copyFrom_41 : decode cX2_copyFrom 41 = .ok (.aaload, 1) := by decide +kernel
theorem dX2_copyFrom_42 : decode cX2_copyFrom 42 = .ok (.aload_n 1, 1) := by decide +kernel
theorem dX2_copyFrom_43 : decode cX2_copyFrom 43 = .ok (.getfield 17, 3) := by decide +kernel
theorem dX2_copyFrom_46 : decode cX2_copyFrom 46 = .ok (.iload_n 2, 1) := by decide +kernel
theorem dX2_copyFrom_47 : decode cX2_copyFrom 47 = .ok (.aaload, 1) := by decide +kernel
theorem dX2_copyFrom_48 : decode cX2_copyFrom 48 = .ok (.invokevirtual 36, 3) := by decide +kernel
theorem dX2_copyFrom_51 : decode cX2_copyFrom 51 = .ok (.iinc 2 1, 3) := by decide +kernel
theorem dX2_copyFrom_54 : decode cX2_copyFrom 54 = .ok (.goto (-26), 3) := by decide +kernel
theorem dX2_copyFrom_57 : decode cX2_copyFrom 57 = .ok (.iconst 0, 1) := by decide +kernel
theorem dX2_copyFrom_58 : decode cX2_copyFrom 58 = .ok (.istore_n 2, 1) := by decide +kernel
theorem dX2_copyFrom_59 : decode cX2_copyFrom 59 = .ok (.iload_n 2, 1) := by decide +kernel
theorem dX2_copyFrom_60 : decode cX2_copyFrom 60 = .ok (.aload_n 1, 1) := by decide +kernel
theorem dX2_copyFrom_61 : decode cX2_copyFrom 61 = .ok (.getfield 40, 3) := by decide +kernel
theorem dX2_copyFrom_64 : decode cX2_copyFrom 64 = .ok (.if_icmp .ge 24, 3) := by decide +kernel
theorem dX2_copyFrom_67 : decode cX2_copyFrom 67 = .ok (.aload_n 0, 1) := by decide +kernel
theorem dX2_copyFrom_68 : decode cX2_copyFrom 68 = .ok (.getfield 23, 3) := by decide +kernel
theorem dX2_copyFrom_71 : decode cX2_copyFrom 71 = .ok (.iload_n 2, 1) := by decide +kernel
theorem dX2_copyFrom_72 : decode cX2_copyFrom 72 = .ok (.aaload, 1) := by decide +kernel
theorem dX2_copyFrom_73 : decode cX2_copyFrom 73 = .ok (.aload_n 1, 1) := by decide +kernel
theorem dX2_copyFrom_74 : decode cX2_copyFrom 74 = .ok (.getfield 23, 3) := by decide +kernel
theorem dX2_copyFrom_77 : decode cX2_copyFrom 77 = .ok (.iload_n 2, 1) := by decide +kernel
theorem dX2_copyFrom_78 : decode cX2_copyFrom 78 = .ok (.aaload, 1) := by decide +kernel
theorem dX2_copyFrom_79 : decode cX2_copyFrom 79 = .ok (.invokevirtual 43, 3) := by decide +kernel
theorem dX2_copyFrom_82 : decode cX2_copyFrom 82 = .ok (.iinc 2 1, 3) := by decide +kernel
theorem dX2_copyFrom_85 : decode cX2_copyFrom 85 = .ok (.goto (-26), 3) := by decide +kernel
theorem dX2_copyFrom_88 : decode cX2_copyFrom 88 = .ok (.aload_n 0, 1) := by decide +kernel
theorem dX2_copyFrom_89 : decode cX2_copyFrom 89 = .ok (.aload_n 1, 1) := by decide +kernel
theorem dX2_copyFrom_90 : decode cX2_copyFrom 90 = .ok (.getfield 46, 3) := by decide +kernel
theorem dX2_copyFrom_93 : decode cX2_copyFrom 93 = .ok (.putfield 46, 3) := by decide +kernel
theorem dX2_copyFrom_96 : decode cX2_copyFrom 96 = .ok (.aload_n 0, 1) := by decide +kernel
theorem dX2_copyFrom_97 : decode cX2_copyFrom 97 = .ok (.aload_n 1, 1) := by decide +kernel
theorem dX2_copyFrom_98 : decode cX2_copyFrom 98 = .ok (.getfield 32, 3) := by decide +kernel
theorem dX2_copyFrom_101 : decode cX2_copyFrom 101 = .ok (.putfield 32, 3) := by decide +kernel
theorem dX2_copyFrom_104 : decode cX2_copyFrom 104 = .ok (.aload_n 0, 1) := by decide +kernel
theorem dX2_copyFrom_105 : decode cX2_copyFrom 105 = .ok (.aload_n 1, 1) := by decide +kernel
theorem dX2_copyFrom_106 : decode cX2_copyFrom 106 = .ok (.getfield 40, 3) := by decide +kernel
theorem dX2_copyFrom_109 : decode cX2_copyFrom 109 = .ok (.putfield 40, 3) := by decide +kernel
theorem dX2_copyFrom_112 : decode cX2_copyFrom 112 = .ok (.aload_n 0, 1) := by decide +kernel
theorem dX2_copyFrom_113 : decode cX2_copyFrom 113 = .ok (.aload_n 1, 1) := by decide +kernel
theorem dX2_copyFrom_114 : decode cX2_copyFrom 114 = .ok (.getfield 49, 3) := by decide +kernel
theorem dX2_copyFrom_117 : decode cX2_copyFrom 117 = .ok (.putfield 49, 3) := by decide +kernel
theorem dX2_copyFrom_120 : decode cX2_copyFrom 120 = .ok (.return_, 1) := by decide +kernel
theorem dX2_meterAt_0 : decode cX2_meterAt 0 = .ok (.iload_n 1, 1) := by decide +kernel
theorem dX2_meterAt_1 : decode cX2_meterAt 1 = .ok (.ifCond .lt 20, 3) := by decide +kernel
theorem dX2_meterAt_4 : decode cX2_meterAt 4 = .ok (.iload_n 1, 1) := by decide +kernel
theorem dX2_meterAt_5 : decode cX2_meterAt 5 = .ok (.aload_n 0, 1) := by decide +kernel
theorem dX2_meterAt_6 : decode cX2_meterAt 6 = .ok (.getfield 32, 3) := by decide +kernel
theorem dX2_meterAt_9 : decode cX2_meterAt 9 = .ok (.if_icmp .ge 12, 3) := by decide +kernel
theorem dX2_meterAt_12 : decode cX2_meterAt 12 = .ok (.aload_n 0, 1) := by decide +kernel
theorem dX2_meterAt_13 : decode cX2_meterAt 13 = .ok (.getfield 17, 3) := by decide +kernel
theorem dX2_meterAt_16 : decode cX2_meterAt 16 = .ok (.iload_n 1, 1) := by decide +kernel
theorem dX2_meterAt_17 : decode cX2_meterAt 17 = .ok (.aaload, 1) := by decide +kernel
theorem dX2_meterAt_18 : decode cX2_meterAt 18 = .ok (.goto 4, 3) := by decide +kernel
theorem dX2_meterAt_21 : decode cX2_meterAt 21 = .ok (.aconst_null, 1) := by decide +kernel
theorem dX2_meterAt_22 : decode cX2_meterAt 22 = .ok (.areturn, 1) := by decide +kernel
theorem dX2_loadAt_0 : decode cX2_loadAt 0 = .ok (.iload_n 1, 1) := by decide +kernel
theorem dX2_loadAt_1 : decode cX2_loadAt 1 = .ok (.ifCond .lt 20, 3) := by decide +kernel
theorem dX2_loadAt_4 : decode cX2_loadAt 4 = .ok (.iload_n 1, 1) := by decide +kernel
theorem dX2_loadAt_5 : decode cX2_loadAt 5 = .ok (.aload_n 0, 1) := by decide +kernel
theorem dX2_loadAt_6 : decode cX2_loadAt 6 = .ok (.getfield 40, 3) := by decide +kernel
theorem dX2_loadAt_9 : decode cX2_loadAt 9 = .ok (.if_icmp .ge 12, 3) := by decide +kernel
theorem dX2_loadAt_12 : decode cX2_loadAt 12 = .ok (.aload_n 0, 1) := by decide +kernel
theorem dX2_loadAt_13 : decode cX2_loadAt 13 = .ok (.getfield 23, 3) := by decide +kernel
theorem dX2_loadAt_16 : decode cX2_loadAt 16 = .ok (.iload_n 1, 1) := by decide +kernel
theorem dX2_loadAt_17 : decode cX2_loadAt 17 = .ok (.aaload, 1) := by decide +kernel
theorem dX2_loadAt_18 : decode cX2_loadAt 18 = .ok (.goto 4, 3) := by decide +kernel
theorem dX2_loadAt_21 : decode cX2_loadAt 21 = .ok (.aconst_null, 1) := by decide +kernel
theorem dX2_loadAt_22 : decode cX2_loadAt 22 = .ok (.areturn, 1) := by decide +kernel
theorem dX2_changeSetting_0 : decode cX2_changeSetting 0 = .ok (.iload_n 1, 1) := by decide +kernel
theorem dX2_changeSetting_1 : decode cX2_changeSetting 1 = .ok (.ifCond .lt 27, 3) := by decide +kernel
theorem dX2_changeSetting_4 : decode cX2_changeSetting 4 = .ok (.iload_n 1, 1) := by decide +kernel
theorem dX2_changeSetting_5 : decode cX2_changeSetting 5 = .ok (.bipush 6, 2) := by decide +kernel
theorem dX2_changeSetting_7 : decode cX2_changeSetting 7 = .ok (.if_icmp .ge 21, 3) := by decide +kernel
theorem dX2_changeSetting_10 : decode cX2_changeSetting 10 = .ok (.iload_n 2, 1) := by decide +kernel
theorem dX2_changeSetting_11 : decode cX2_changeSetting 11 = .ok (.getstatic 52, 3) := by decide +kernel
theorem dX2_changeSetting_14 : decode cX2_changeSetting 14 = .ok (.iload_n 1, 1) := by decide +kernel
theorem dX2_changeSetting_15 : decode cX2_changeSetting 15 = .ok (.iaload, 1) := by decide +kernel
theorem dX2_changeSetting_16 : decode cX2_changeSetting 16 = .ok (.if_icmp .lt 12, 3) := by decide +kernel
theorem dX2_changeSetting_19 : decode cX2_changeSetting 19 = .ok (.iload_n 2, 1) := by decide +kernel
theorem dX2_changeSetting_20 : decode cX2_changeSetting 20 = .ok (.getstatic 55, 3) := by decide +kernel
theorem dX2_changeSetting_23 : decode cX2_changeSetting 23 = .ok (.iload_n 1, 1) := by decide +kernel
theorem dX2_changeSetting_24 : decode cX2_changeSetting 24 = .ok (.iaload, 1) := by decide +kernel
theorem dX2_changeSetting_25 : decode cX2_changeSetting 25 = .ok (.if_icmp .le 6, 3) := by decide +kernel
theorem dX2_changeSetting_28 : decode cX2_changeSetting 28 = .ok (.bipush (-2), 2) := by decide +kernel
theorem dX2_changeSetting_30 : decode cX2_changeSetting 30 = .ok (.ireturn, 1) := by decide +kernel
theorem dX2_changeSetting_31 : decode cX2_changeSetting 31 = .ok (.aload_n 0, 1) := by decide +kernel
theorem dX2_changeSetting_32 : decode cX2_changeSetting 32 = .ok (.getfield 9, 3) := by decide +kernel
theorem dX2_changeSetting_35 : decode cX2_changeSetting 35 = .ok (.iload_n 1, 1) := by decide +kernel
theorem dX2_changeSetting_36 : decode cX2_changeSetting 36 = .ok (.iaload, 1) := by decide +kernel
theorem dX2_changeSetting_37 : decode cX2_changeSetting 37 = .ok (.istore_n 3, 1) := by decide +kernel
theorem dX2_changeSetting_38 : decode cX2_changeSetting 38 = .ok (.aload_n 0, 1) := by decide +kernel
theorem dX2_changeSetting_39 : decode cX2_changeSetting 39 = .ok (.getfield 9, 3) := by decide +kernel
theorem dX2_changeSetting_42 : decode cX2_changeSetting 42 = .ok (.iload_n 1, 1) := by decide +kernel
theorem dX2_changeSetting_43 : decode cX2_changeSetting 43 = .ok (.iload_n 2, 1) := by decide +kernel
theorem dX2_changeSetting_44 : decode cX2_changeSetting 44 = .ok (.iastore, 1) := by decide +kernel
theorem dX2_changeSetting_45 : decode cX2_changeSetting 45 = .ok (.iload_n 3, 1) := by decide +kernel
theorem dX2_changeSetting_46 : decode cX2_changeSetting 46 = .ok (.ireturn, 1) := by decide +kernel
set_option maxRecDepth 20000 in
theorem ggX2_addMeter_X2_meterAt : GoodIn wsX2_addMeter wsX2_meterAt := goodIn_r _ [8, 1, 3, 27, 28, 29, 30, 31, 32, 33] (by decide +kernel) (by decide +kernel)
set_option maxRecDepth 20000 in
theorem gX2_addMeter_X2_meterAt : GoodIn wsX2_addMeter (wsV RX2 58 RX2 yX2_meterAt wsX2_meterAt) := goodIn_app (goodIn_of _ (by decide +kernel)) ggX2_addMeter_X2_meterAt
set_option maxRecDepth 20000 in
theorem ggX2_addMeter_X4_begin : GoodIn wsX2_addMeter wsX4_begin := goodIn_r _ [13, 14, 15, 16, 17, 18, 19, 20, 21, 22, 23, 24, 25, 26, 34, 35, 36, 37, 38, 39, 40, 41, 42, 43, 44, 45, 46] (by decide +kernel) (by decide +kernel)
set_option maxRecDepth 20000 in
theorem gX2_addMeter_X4_begin : GoodIn wsX2_addMeter (wsV RX2 62 RX4 yX4_begin wsX4_begin) := goodIn_app (goodIn_of _ (by decide +kernel)) ggX2_addMeter_X4_begin
theorem dX2_addMeter_0 : decode cX2_addMeter 0 = .ok (.aload_n 0, 1) := by decide +kernel
theorem dX2_addMeter_1 : decode cX2_addMeter 1 = .ok (.getfield 32, 3) := by decide +kernel
theorem dX2_addMeter_4 : decode cX2_addMeter 4 = .ok (.ifCond .le 13, 3) := by decide +kernel
theorem dX2_addMeter_7 : decode cX2_addMeter 7 = .ok (.aload_n 0, 1) := by decide +kernel
theorem dX2_addMeter_8 : decode cX2_addMeter 8 = .ok (.iload_n 1, 1) := by decide +kernel
theorem dX2_addMeter_9 : decode cX2_addMeter 9 = .ok (.invokevirtual 58, 3) := by decide +kernel
theorem dX2_addMeter_12 : decode cX2_addMeter 12 = .ok (.ifnonnull 5, 3) := by decide +kernel
theorem dX2_addMeter_15 : decode cX2_addMeter 15 = .ok (.iconst (-1), 1) := by decide +kernel
theorem dX2_addMeter_16 : decode cX2_addMeter 16 = .ok (.ireturn, 1) := by decide +kernel
theorem dX2_addMeter_17 : decode cX2_addMeter 17 = .ok (.aload_n 0, 1) := by decide +kernel
theorem dX2_addMeter_18 : decode cX2_addMeter 18 = .ok (.getfield 32, 3) := by decide +kernel
theorem dX2_addMeter_21 : decode cX2_addMeter 21 = .ok (.bipush 7, 2) := by decide +kernel
theorem dX2_addMeter_23 : decode cX2_addMeter 23 = .ok (.if_icmp .lt 6, 3) := by decide +kernel
theorem dX2_addMeter_26 : decode cX2_addMeter 26 = .ok (.bipush (-4), 2) := by decide +kernel
theorem dX2_addMeter_28 : decode cX2_addMeter 28 = .ok (.ireturn, 1) := by decide +kernel
theorem dX2_addMeter_29 : decode cX2_addMeter 29 = .ok (.aload_n 0, 1) := by decide +kernel
theorem dX2_addMeter_30 : decode cX2_addMeter 30 = .ok (.dup, 1) := by decide +kernel
theorem dX2_addMeter_31 : decode cX2_addMeter 31 = .ok (.getfield 49, 3) := by decide +kernel
theorem dX2_addMeter_34 : decode cX2_addMeter 34 = .ok (.iconst 1, 1) := by decide +kernel
theorem dX2_addMeter_35 : decode cX2_addMeter 35 = .ok (.iadd, 1) := by decide +kernel
theorem dX2_addMeter_36 : decode cX2_addMeter 36 = .ok (.putfield 49, 3) := by decide +kernel
theorem dX2_addMeter_39 : decode cX2_addMeter 39 = .ok (.aload_n 0, 1) := by decide +kernel
theorem dX2_addMeter_40 : decode cX2_addMeter 40 = .ok (.getfield 17, 3) := by decide +kernel
theorem dX2_addMeter_43 : decode cX2_addMeter 43 = .ok (.aload_n 0, 1) := by decide +kernel
theorem dX2_addMeter_44 : decode cX2_addMeter 44 = .ok (.getfield 32, 3) := by decide +kernel
theorem dX2_addMeter_47 : decode cX2_addMeter 47 = .ok (.aaload, 1) := by decide +kernel
theorem dX2_addMeter_48 : decode cX2_addMeter 48 = .ok (.aload_n 0, 1) := by decide +kernel
theorem dX2_addMeter_49 : decode cX2_addMeter 49 = .ok (.getfield 32, 3) := by decide +kernel
theorem dX2_addMeter_52 : decode cX2_addMeter 52 = .ok (.ifCond .ne 8, 3) := by decide +kernel
theorem dX2_addMeter_55 : decode cX2_addMeter 55 = .ok (.bipush (-6), 2) := by decide +kernel
theorem dX2_addMeter_57 : decode cX2_addMeter 57 = .ok (.goto 4, 3) := by decide +kernel
theorem dX2_addMeter_60 : decode cX2_addMeter 60 = .ok (.iload_n 1, 1) := by decide +kernel
theorem dX2_addMeter_61 : decode cX2_addMeter 61 = .ok (.aload_n 0, 1) := by decide +kernel
theorem dX2_addMeter_62 : decode cX2_addMeter 62 = .ok (.getfield 49, 3) := by decide +kernel
theorem dX2_addMeter_65 : decode cX2_addMeter 65 = .ok (.invokevirtual 62, 3) := by decide +kernel
theorem dX2_addMeter_68 : decode cX2_addMeter 68 = .ok (.aload_n 0, 1) := by decide +kernel
theorem dX2_addMeter_69 : decode cX2_addMeter 69 = .ok (.dup, 1) := by decide +kernel
theorem dX2_addMeter_70 : decode cX2_addMeter 70 = .ok (.getfield 32, 3) := by decide +kernel
theorem dX2_addMeter_73 : decode cX2_addMeter 73 = .ok (.iconst 1, 1) := by decide +kernel
theorem dX2_addMeter_74 : decode cX2_addMeter 74 = .ok (.iadd, 1) := by decide +kernel
theorem dX2_addMeter_75 : decode cX2_addMeter 75 = .ok (.putfield 32, 3) := by decide +kernel
theorem dX2_addMeter_78 : decode cX2_addMeter 78 = .ok (.aload_n 0, 1) := by decide +kernel
theorem dX2_addMeter_79 : decode cX2_addMeter 79 = .ok (.getfield 32, 3) := by decide +kernel
theorem dX2_addMeter_82 : decode cX2_addMeter 82 = .ok (.iconst 1, 1) := by decide +kernel
theorem dX2_addMeter_83 : decode cX2_addMeter 83 = .ok (.isub, 1) := by decide +kernel
theorem dX2_addMeter_84 : decode cX2_addMeter 84 = .ok (.ireturn, 1) := by decide +kernel
set_option maxRecDepth 20000 in
theorem ggX2_addLoad_X2_meterAt : GoodIn wsX2_addLoad wsX2_meterAt := goodIn_r _ [7, 8, 9, 18, 19, 20, 21, 22, 23, 24] (by decide +kernel) (by decide +kernel)
set_option maxRecDepth 20000 in
theorem gX2_addLoad_X2_meterAt : GoodIn wsX2_addLoad (wsV RX2 58 RX2 yX2_meterAt wsX2_meterAt) := goodIn_app (goodIn_of _ (by decide +kernel)) ggX2_addLoad_X2_meterAt
set_option maxRecDepth 20000 in
theorem ggX2_addLoad_X3_begin : GoodIn wsX2_addLoad wsX3_begin := goodIn_r _ [14, 15, 16, 17, 25, 26, 27] (by decide +kernel) (by decide +kernel)
set_option maxRecDepth 20000 in
theorem gX2_addLoad_X3_begin : GoodIn wsX2_addLoad (wsV RX2 66 RX3 yX3_begin wsX3_begin) := goodIn_app (goodIn_of _ (by decide +kernel)) ggX2_addLoad_X3_begin
theorem dX2_addLoad_0 : decode cX2_addLoad 0 = .ok (.aload_n 0, 1) := by decide +kernel
theorem dX2_addLoad_1 : decode cX2_addLoad 1 = .ok (.iload_n 1, 1) := by decide +kernel
theorem dX2_addLoad_2 : decode cX2_addLoad 2 = .ok (.invokevirtual 58, 3) := by decide +kernel
theorem dX2_addLoad_5 : decode cX2_addLoad 5 = .ok (.ifnonnull 5, 3) := by decide +kernel
theorem dX2_addLoad_8 : decode cX2_addLoad 8 = .ok (.iconst (-1), 1) := by decide +kernel
theorem dX2_addLoad_9 : decode cX2_addLoad 9 = .ok (.ireturn, 1) := by decide +kernel
theorem dX2_addLoad_10 : decode cX2_addLoad 10 = .ok (.iload_n 2, 1) := by decide +kernel
theorem dX2_addLoad_11 : decode cX2_addLoad 11 = .ok (.iconst 1, 1) := by decide +kernel
theorem dX2_addLoad_12 : decode cX2_addLoad 12 = .ok (.if_icmp .lt 10, 3) := by decide +kernel
theorem dX2_addLoad_15 : decode cX2_addLoad 15 = .ok (.iload_n 2, 1) := by decide +kernel
theorem dX2_addLoad_16 : decode cX2_addLoad 16 = .ok (.sipush 4000, 3) := by decide +kernel
theorem dX2_addLoad_19 : decode cX2_addLoad 19 = .ok (.if_icmp .le 6, 3) := by decide +kernel
theorem dX2_addLoad_22 : decode cX2_addLoad 22 = .ok (.bipush (-2), 2) := by decide +kernel
theorem dX2_addLoad_24 : decode cX2_addLoad 24 = .ok (.ireturn, 1) := by decide +kernel
theorem dX2_addLoad_25 : decode cX2_addLoad 25 = .ok (.aload_n 0, 1) := by decide +kernel
theorem dX2_addLoad_26 : decode cX2_addLoad 26 = .ok (.getfield 40, 3) := by decide +kernel
theorem dX2_addLoad_29 : decode cX2_addLoad 29 = .ok (.bipush 12, 2) := by decide +kernel
theorem dX2_addLoad_31 : decode cX2_addLoad 31 = .ok (.if_icmp .lt 6, 3) := by decide +kernel
theorem dX2_addLoad_34 : decode cX2_addLoad 34 = .ok (.bipush (-4), 2) := by decide +kernel
theorem dX2_addLoad_36 : decode cX2_addLoad 36 = .ok (.ireturn, 1) := by decide +kernel
theorem dX2_addLoad_37 : decode cX2_addLoad 37 = .ok (.aload_n 0, 1) := by decide +kernel
theorem dX2_addLoad_38 : decode cX2_addLoad 38 = .ok (.getfield 23, 3) := by decide +kernel
theorem dX2_addLoad_41 : decode cX2_addLoad 41 = .ok (.aload_n 0, 1) := by decide +kernel
theorem dX2_addLoad_42 : decode cX2_addLoad 42 = .ok (.getfield 40, 3) := by decide +kernel
theorem dX2_addLoad_45 : decode cX2_addLoad 45 = .ok (.aaload, 1) := by decide +kernel
theorem dX2_addLoad_46 : decode cX2_addLoad 46 = .ok (.iload_n 1, 1) := by decide +kernel
theorem dX2_addLoad_47 : decode cX2_addLoad 47 = .ok (.iload_n 2, 1) := by decide +kernel
theorem dX2_addLoad_48 : decode cX2_addLoad 48 = .ok (.invokevirtual 66, 3) := by decide +kernel
theorem dX2_addLoad_51 : decode cX2_addLoad 51 = .ok (.aload_n 0, 1) := by decide +kernel
theorem dX2_addLoad_52 : decode cX2_addLoad 52 = .ok (.dup, 1) := by decide +kernel
theorem dX2_addLoad_53 : decode cX2_addLoad 53 = .ok (.getfield 40, 3) := by decide +kernel
theorem dX2_addLoad_56 : decode cX2_addLoad 56 = .ok (.iconst 1, 1) := by decide +kernel
theorem dX2_addLoad_57 : decode cX2_addLoad 57 = .ok (.iadd, 1) := by decide +kernel
theorem dX2_addLoad_58 : decode cX2_addLoad 58 = .ok (.putfield 40, 3) := by decide +kernel
theorem dX2_addLoad_61 : decode cX2_addLoad 61 = .ok (.aload_n 0, 1) := by decide +kernel
theorem dX2_addLoad_62 : decode cX2_addLoad 62 = .ok (.getfield 40, 3) := by decide +kernel
theorem dX2_addLoad_65 : decode cX2_addLoad 65 = .ok (.iconst 1, 1) := by decide +kernel
theorem dX2_addLoad_66 : decode cX2_addLoad 66 = .ok (.isub, 1) := by decide +kernel
theorem dX2_addLoad_67 : decode cX2_addLoad 67 = .ok (.ireturn, 1) := by decide +kernel
set_option maxRecDepth 20000 in
theorem ggX2_switchLoad_X2_loadAt : GoodIn wsX2_switchLoad wsX2_loadAt := goodIn_r _ [6, 7, 8, 12, 13, 14, 15, 16, 17, 18] (by decide +kernel) (by decide +kernel)
set_option maxRecDepth 20000 in
theorem gX2_switchLoad_X2_loadAt : GoodIn wsX2_switchLoad (wsV RX2 67 RX2 yX2_loadAt wsX2_loadAt) := goodIn_app (goodIn_of _ (by decide +kernel)) ggX2_switchLoad_X2_loadAt
theorem dX2_switchLoad_0 : decode cX2_switchLoad 0 = .ok (.aload_n 0, 1) := by decide +kernel
theorem dX2_switchLoad_1 : decode cX2_switchLoad 1 = .ok (.iload_n 1, 1) := by decide +kernel
theorem dX2_switchLoad_2 : decode cX2_switchLoad 2 = .ok (.invokevirtual 67, 3) := by decide +kernel
theorem dX2_switchLoad_5 : decode cX2_switchLoad 5 = .ok (.astore_n 2, 1) := by decide +kernel
theorem dX2_switchLoad_6 : decode cX2_switchLoad 6 = .ok (.aload_n 2, 1) := by decide +kernel
theorem dX2_switchLoad_7 : decode cX2_switchLoad 7 = .ok (.ifnonnull 5, 3) := by decide +kernel
theorem dX2_switchLoad_10 : decode cX2_switchLoad 10 = .ok (.iconst (-1), 1) := by decide +kernel
theorem dX2_switchLoad_11 : decode cX2_switchLoad 11 = .ok (.ireturn, 1) := by decide +kernel
theorem dX2_switchLoad_12 : decode cX2_switchLoad 12 = .ok (.aload_n 2, 1) := by decide +kernel
theorem dX2_switchLoad_13 : decode cX2_switchLoad 13 = .ok (.aload_n 2, 1) := by decide +kernel
theorem dX2_switchLoad_14 : decode cX2_switchLoad 14 = .ok (.getfield 71, 3) := by decide +kernel
theorem dX2_switchLoad_17 : decode cX2_switchLoad 17 = .ok (.ifCond .ne 7, 3) := by decide +kernel
theorem dX2_switchLoad_20 : decode cX2_switchLoad 20 = .ok (.iconst 1, 1) := by decide +kernel
theorem dX2_switchLoad_21 : decode cX2_switchLoad 21 = .ok (.goto 4, 3) := by decide +kernel
theorem dX2_switchLoad_24 : decode cX2_switchLoad 24 = .ok (.iconst 0, 1) := by decide +kernel
theorem dX2_switchLoad_25 : decode cX2_switchLoad 25 = .ok (.putfield 71, 3) := by decide +kernel
theorem dX2_switchLoad_28 : decode cX2_switchLoad 28 = .ok (.aload_n 2, 1) := by decide +kernel
theorem dX2_switchLoad_29 : decode cX2_switchLoad 29 = .ok (.getfield 71, 3) := by decide +kernel
theorem dX2_switchLoad_32 : decode cX2_switchLoad 32 = .ok (.ifCond .eq 7, 3) := by decide +kernel
theorem dX2_switchLoad_35 : decode cX2_switchLoad 35 = .ok (.iconst 1, 1) := by decide +kernel
theorem dX2_switchLoad_36 : decode cX2_switchLoad 36 = .ok (.goto 4, 3) := by decide +kernel
theorem dX2_switchLoad_39 : decode cX2_switchLoad 39 = .ok (.iconst 0, 1) := by decide +kernel
theorem dX2_switchLoad_40 : decode cX2_switchLoad 40 = .ok (.ireturn, 1) := by decide +kernel
set_option maxRecDepth 20000 in
theorem ggX2_breakSeal_X2_meterAt : GoodIn wsX2_breakSeal wsX2_meterAt := goodIn_r _ [7, 8, 9, 23, 24, 25, 26, 27, 28, 29] (by decide +kernel) (by decide +kernel)
set_option maxRecDepth 20000 in
theorem gX2_breakSeal_X2_meterAt : GoodIn wsX2_breakSeal (wsV RX2 58 RX2 yX2_meterAt wsX2_meterAt) := goodIn_app (goodIn_of _ (by decide +kernel)) ggX2_breakSeal_X2_meterAt
theorem dX2_breakSeal_0 : decode cX2_breakSeal 0 = .ok (.aload_n 0, 1) := by decide +kernel
theorem dX2_breakSeal_1 : decode cX2_breakSeal 1 = .ok (.iload_n 1, 1) := by decide +kernel
theorem dX2_breakSeal_2 : decode cX2_breakSeal 2 = .ok (.invokevirtual 58, 3) := by decide +kernel
theorem dX2_breakSeal_5 : decode cX2_breakSeal 5 = .ok (.astore_n 2, 1) := by decide +kernel
theorem dX2_breakSeal_6 : decode cX2_breakSeal 6 = .ok (.aload_n 2, 1) := by decide +kernel
theorem dX2_breakSeal_7 : decode cX2_breakSeal 7 = .ok (.ifnonnull 5, 3) := by decide +kernel
theorem dX2_breakSeal_10 : decode cX2_breakSeal 10 = .ok (.iconst (-1), 1) := by decide +kernel
theorem dX2_breakSeal_11 : decode cX2_breakSeal 11 = .ok (.ireturn, 1) := by decide +kernel
theorem dX2_breakSeal_12 : decode cX2_breakSeal 12 = .ok (.aload_n 2, 1) := by decide +kernel
theorem dX2_breakSeal_13 : decode cX2_breakSeal 13 = .ok (.getfield 75, 3) := by decide +kernel
theorem dX2_breakSeal_16 : decode cX2_breakSeal 16 = .ok (.ifCond .eq 6, 3) := by decide +kernel
theorem dX2_breakSeal_19 : decode cX2_breakSeal 19 = .ok (.bipush (-5), 2) := by decide +kernel
theorem dX2_breakSeal_21 : decode cX2_breakSeal 21 = .ok (.ireturn, 1) := by decide +kernel
theorem dX2_breakSeal_22 : decode cX2_breakSeal 22 = .ok (.aload_n 2, 1) := by decide +kernel
theorem dX2_breakSeal_23 : decode cX2_breakSeal 23 = .ok (.iconst 1, 1) := by decide +kernel
theorem dX2_breakSeal_24 : decode cX2_breakSeal 24 = .ok (.putfield 75, 3) := by decide +kernel
theorem dX2_breakSeal_27 : decode cX2_breakSeal 27 = .ok (.aload_n 2, 1) := by decide +kernel
theorem dX2_breakSeal_28 : decode cX2_breakSeal 28 = .ok (.getfield 78, 3) := by decide +kernel
theorem dX2_breakSeal_31 : decode cX2_breakSeal 31 = .ok (.ireturn, 1) := by decide +kernel
set_option maxRecDepth 20000 in
theorem ggX2_inspect_X2_meterAt : GoodIn wsX2_inspect wsX2_meterAt := goodIn_r _ [7, 8, 9, 55, 56, 57, 58, 59, 60, 61] (by decide +kernel) (by decide +kernel)
set_option maxRecDepth 20000 in
theorem gX2_inspect_X2_meterAt : GoodIn wsX2_inspect (wsV RX2 58 RX2 yX2_meterAt wsX2_meterAt) := goodIn_app (goodIn_of _ (by decide +kernel)) ggX2_inspect_X2_meterAt
set_option maxRecDepth 20000 in
theorem ggX2_inspect_X2_owedAt : GoodIn wsX2_inspect wsX2_owedAt := goodIn_r _ [13, 14, 15, 16, 17, 18, 19, 20, 21, 22, 23, 24, 25, 26, 27, 55, 56, 57, 58, 59, 60, 61, 42, 43, 44, 45, 46, 47, 48, 49, 50, 51, 52, 53, 54] (by decide +kernel) (by decide +kernel)
set_option maxRecDepth 20000 in
theorem gX2_inspect_X2_owedAt : GoodIn wsX2_inspect (wsV RX2 81 RX2 yX2_owedAt wsX2_owedAt) := goodIn_app (goodIn_of _ (by decide +kernel)) ggX2_inspect_X2_owedAt
set_option maxRecDepth 20000 in
theorem ggX2_inspect_X4_settleBill : GoodIn wsX2_inspect wsX4_settleBill := goodIn_r _ [31, 32, 20, 21, 26, 27, 33, 34, 35, 42, 43, 44, 45, 46, 47, 48, 49, 50, 51, 52, 53, 54] (by decide +kernel) (by decide +kernel)
set_option maxRecDepth 20000 in
theorem gX2_inspect_X4_settleBill : GoodIn wsX2_inspect (wsV RX2 85 RX4 yX4_settleBill wsX4_settleBill) := goodIn_app (goodIn_of _ (by decide +kernel)) ggX2_inspect_X4_settleBill
set_option maxRecDepth 20000 in
theorem ggX2_inspect_X4_mend : GoodIn wsX2_inspect wsX4_mend := goodIn_r _ [39, 40, 41, 42, 43, 44, 45, 46, 47, 48, 49, 50, 51, 52, 53, 54] (by decide +kernel) (by decide +kernel)
set_option maxRecDepth 20000 in
theorem gX2_inspect_X4_mend : GoodIn wsX2_inspect (wsV RX2 89 RX4 yX4_mend wsX4_mend) := goodIn_app (goodIn_of _ (by decide +kernel)) ggX2_inspect_X4_mend
theorem dX2_inspect_0 : decode cX2_inspect 0 = .ok (.aload_n 0, 1) := by decide +kernel
theorem dX2_inspect_1 : decode cX2_inspect 1 = .ok (.iload_n 1, 1) := by decide +kernel
theorem dX2_inspect_2 : decode cX2_inspect 2 = .ok (.invokevirtual 58, 3) := by decide +kernel
theorem dX2_inspect_5 : decode cX2_inspect 5 = .ok (.astore_n 2, 1) := by decide +kernel
theorem dX2_inspect_6 : decode cX2_inspect 6 = .ok (.aload_n 2, 1) := by decide +kernel
theorem dX2_inspect_7 : decode cX2_inspect 7 = .ok (.ifnonnull 5, 3) := by decide +kernel
theorem dX2_inspect_10 : decode cX2_inspect 10 = .ok (.iconst (-1), 1) := by decide +kernel
theorem dX2_inspect_11 : decode cX2_inspect 11 = .ok (.ireturn, 1) := by decide +kernel
theorem dX2_inspect_12 : decode cX2_inspect 12 = .ok (.aload_n 0, 1) := by decide +kernel
theorem dX2_inspect_13 : decode cX2_inspect 13 = .ok (.aload_n 2, 1) := by decide +kernel
theorem dX2_inspect_14 : decode cX2_inspect 14 = .ok (.invokevirtual 81, 3) := by decide +kernel
theorem dX2_inspect_17 : decode cX2_inspect 17 = .ok (.istore_n 3, 1) := by decide +kernel
theorem dX2_inspect_18 : decode cX2_inspect 18 = .ok (.aload_n 2, 1) := by decide +kernel
theorem dX2_inspect_19 : decode cX2_inspect 19 = .ok (.iload_n 3, 1) := by decide +kernel
theorem dX2_inspect_20 : decode cX2_inspect 20 = .ok (.invokevirtual 85, 3) := by decide +kernel
theorem dX2_inspect_23 : decode cX2_inspect 23 = .ok (.aload_n 2, 1) := by decide +kernel
theorem dX2_inspect_24 : decode cX2_inspect 24 = .ok (.getfield 75, 3) := by decide +kernel
theorem dX2_inspect_27 : decode cX2_inspect 27 = .ok (.ifCond .eq 21, 3) := by decide +kernel
theorem dX2_inspect_30 : decode cX2_inspect 30 = .ok (.aload_n 0, 1) := by decide +kernel
theorem dX2_inspect_31 : decode cX2_inspect 31 = .ok (.dup, 1) := by decide +kernel
theorem dX2_inspect_32 : decode cX2_inspect 32 = .ok (.getfield 49, 3) := by decide +kernel
theorem dX2_inspect_35 : decode cX2_inspect 35 = .ok (.iconst 1, 1) := by decide +kernel
theorem dX2_inspect_36 : decode cX2_inspect 36 = .ok (.iadd, 1) := by decide +kernel
theorem dX2_inspect_37 : decode cX2_inspect 37 = .ok (.putfield 49, 3) := by decide +kernel
theorem dX2_inspect_40 : decode cX2_inspect 40 = .ok (.aload_n 2, 1) := by decide +kernel
theorem dX2_inspect_41 : decode cX2_inspect 41 = .ok (.aload_n 0, 1) := by decide +kernel
theorem dX2_inspect_42 : decode cX2_inspect 42 = .ok (.getfield 49, 3) := by decide +kernel
theorem dX2_inspect_45 : decode cX2_inspect 45 = .ok (.invokevirtual 89, 3) := by decide +kernel
theorem dX2_inspect_48 : decode cX2_inspect 48 = .ok (.iload_n 3, 1) := by decide +kernel
theorem dX2_inspect_49 : decode cX2_inspect 49 = .ok (.ireturn, 1) := by decide +kernel
set_option maxRecDepth 20000 in
theorem ggX2_elapse_X2_powerOf : GoodIn wsX2_elapse wsX2_powerOf := goodIn_r _ [9, 10, 11, 12, 13, 14, 15, 16, 17, 8, 18, 3, 4, 19, 20, 21, 22, 62, 63, 64, 65, 66, 67, 68, 69, 70, 71, 72, 73, 74, 75, 76, 77, 78, 79, 80, 81, 82, 83, 84] (by decide +kernel) (by decide +kernel)
set_option maxRecDepth 20000 in
theorem gX2_elapse_X2_powerOf : GoodIn wsX2_elapse (wsV RX2 93 RX2 yX2_powerOf wsX2_powerOf) := goodIn_app (goodIn_of _ (by decide +kernel)) ggX2_elapse_X2_powerOf
set_option maxRecDepth 20000 in
theorem ggX2_elapse_X2_runDisc : GoodIn wsX2_elapse wsX2_runDisc := goodIn_r _ [26, 1, 27, 28, 29, 30, 31, 32, 33, 34, 35, 36, 37, 38, 39, 40, 41, 42, 43, 44, 45, 46, 47, 48, 49, 50, 51, 52, 53, 54, 55, 56, 57, 58, 59, 60, 61, 62, 63, 64, 65, 66, 67, 68, 72, 73, 74, 75, 76, 77, 78, 79, 80, 81, 82, 83, 84] (by decide +kernel) (by decide +kernel)
set_option maxRecDepth 20000 in
theorem gX2_elapse_X2_runDisc : GoodIn wsX2_elapse (wsV RX2 97 RX2 yX2_runDisc wsX2_runDisc) := goodIn_app (goodIn_of _ (by decide +kernel)) ggX2_elapse_X2_runDisc
theorem dX2_elapse_0 : decode cX2_elapse 0 = .ok (.iload_n 1, 1) := by decide +kernel
theorem dX2_elapse_1 : decode cX2_elapse 1 = .ok (.iconst 1, 1) := by decide +kernel
theorem dX2_elapse_2 : decode cX2_elapse 2 = .ok (.if_icmp .lt 10, 3) := by decide +kernel
theorem dX2_elapse_5 : decode cX2_elapse 5 = .ok (.iload_n 1, 1) := by decide +kernel
theorem dX2_elapse_6 : decode cX2_elapse 6 = .ok (.sipush 1440, 3) := by decide +kernel
theorem dX2_elapse_9 : decode cX2_elapse 9 = .ok (.if_icmp .le 6, 3) := by decide +kernel
theorem dX2_elapse_12 : decode cX2_elapse 12 = .ok (.bipush (-2), 2) := by decide +kernel
theorem dX2_elapse_14 : decode cX2_elapse 14 = .ok (.ireturn, 1) := by decide +kernel
theorem dX2_elapse_15 : decode cX2_elapse 15 = .ok (.aload_n 0, 1) := by decide +kernel
theorem dX2_elapse_16 : decode cX2_elapse 16 = .ok (.getfield 46, 3) := by decide +kernel
theorem dX2_elapse_19 : decode cX2_elapse 19 = .ok (.iload_n 1, 1) := by decide +kernel
theorem dX2_elapse_20 : decode cX2_elapse 20 = .ok (.iadd, 1) := by decide +kernel
theorem dX2_elapse_21 : decode cX2_elapse 21 = .ok (.ldc 92, 2) := by decide +kernel
theorem dX2_elapse_23 : decode cX2_elapse 23 = .ok (.if_icmp .le 6, 3) := by decide +kernel
theorem dX2_elapse_26 : decode cX2_elapse 26 = .ok (.bipush (-5), 2) := by decide +kernel
theorem dX2_elapse_28 : decode cX2_elapse 28 = .ok (.ireturn, 1) := by decide +kernel
theorem dX2_elapse_29 : decode cX2_elapse 29 = .ok (.iconst 0, 1) := by decide +kernel
theorem dX2_elapse_30 : decode cX2_elapse 30 = .ok (.istore_n 2, 1) := by decide +kernel
theorem dX2_elapse_31 : decode cX2_elapse 31 = .ok (.iconst 0, 1) := by decide +kernel
theorem dX2_elapse_32 : decode cX2_elapse 32 = .ok (.istore_n 3, 1) := by decide +kernel
theorem dX2_elapse_33 : decode cX2_elapse 33 = .ok (.iload_n 3, 1) := by decide +kernel
theorem dX2_elapse_34 : decode cX2_elapse 34 = .ok (.aload_n 0, 1) := by decide +kernel
theorem dX2_elapse_35 : decode cX2_elapse 35 = .ok (.getfield 32, 3) := by decide +kernel
theorem dX2_elapse_38 : decode cX2_elapse 38 = .ok (.if_icmp .ge 28, 3) := by decide +kernel
theorem dX2_elapse_41 : decode cX2_elapse 41 = .ok (.iload_n 2, 1) := by decide +kernel
theorem dX2_elapse_42 : decode cX2_elapse 42 = .ok (.aload_n 0, 1) := by decide +kernel
theorem dX2_elapse_43 : decode cX2_elapse 43 = .ok (.aload_n 0, 1) := by decide +kernel
theorem dX2_elapse_44 : decode cX2_elapse 44 = .ok (.getfield 17, 3) := by decide +kernel
theorem dX2_elapse_47 : decode cX2_elapse 47 = .ok (.iload_n 3, 1) := by decide +kernel
theorem dX2_elapse_48 : decode cX2_elapse 48 = .ok (.aaload, 1) := by decide +kernel
theorem dX2_elapse_49 : decode cX2_elapse 49 = .ok (.aload_n 0, 1) := by decide +kernel
theorem dX2_elapse_50 : decode cX2_elapse 50 = .ok (.iload_n 3, 1) := by decide +kernel
theorem dX2_elapse_51 : decode cX2_elapse 51 = .ok (.invokevirtual 93, 3) := by decide +kernel
theorem dX2_elapse_54 : decode cX2_elapse 54 = .ok (.iload_n 1, 1) := by decide +kernel
theorem dX2_elapse_55 : decode cX2_elapse 55 = .ok (.invokevirtual 97, 3) := by decide +kernel
theorem dX2_elapse_58 : decode cX2_elapse 58 = .ok (.iadd, 1) := by decide +kernel
theorem dX2_elapse_59 : decode cX2_elapse 59 = .ok (.istore_n 2, 1) := by decide +kernel
theorem dX2_elapse_60 : decode cX2_elapse 60 = .ok (.iinc 3 1, 3) := by decide +kernel
theorem dX2_elapse_63 : decode cX2_elapse 63 = .ok (.goto (-30), 3) := by decide +kernel
theorem dX2_elapse_66 : decode cX2_elapse 66 = .ok (.aload_n 0, 1) := by decide +kernel
theorem dX2_elapse_67 : decode cX2_elapse 67 = .ok (.dup, 1) := by decide +kernel
theorem dX2_elapse_68 : decode cX2_elapse 68 = .ok (.getfield 46, 3) := by decide +kernel
theorem dX2_elapse_71 : decode cX2_elapse 71 = .ok (.iload_n 1, 1) := by decide +kernel
theorem dX2_elapse_72 : decode cX2_elapse 72 = .ok (.iadd, 1) := by decide +kernel
theorem dX2_elapse_73 : decode cX2_elapse 73 = .ok (.putfield 46, 3) := by decide +kernel
theorem dX2_elapse_76 : decode cX2_elapse 76 = .ok (.iload_n 2, 1) := by decide +kernel
theorem dX2_elapse_77 : decode cX2_elapse 77 = .ok (.ireturn, 1) := by decide +kernel
set_option maxRecDepth 20000 in
theorem ggX2_runDisc_X6_minutesToSwitch : GoodIn wsX2_runDisc wsX6_minutesToSwitch := goodIn_r _ [12] (by decide +kernel) (by decide +kernel)
set_option maxRecDepth 20000 in
theorem gX2_runDisc_X6_minutesToSwitch_n101 : GoodIn wsX2_runDisc (wsX6_minutesToSwitch) := ggX2_runDisc_X6_minutesToSwitch
set_option maxRecDepth 20000 in
theorem ggX2_runDisc_X4_minutesToAge : GoodIn wsX2_runDisc wsX4_minutesToAge := goodIn_r _ [17, 18, 19, 8, 5, 9, 44, 45, 46, 47, 48, 49, 50, 51, 52, 53, 54, 55, 56] (by decide +kernel) (by decide +kernel)
set_option maxRecDepth 20000 in
theorem gX2_runDisc_X4_minutesToAge : GoodIn wsX2_runDisc (wsV RX2 104 RX4 yX4_minutesToAge wsX4_minutesToAge) := goodIn_app (goodIn_of _ (by decide +kernel)) ggX2_runDisc_X4_minutesToAge
set_option maxRecDepth 20000 in
theorem ggX2_runDisc_X6_isNight : GoodIn wsX2_runDisc wsX6_isNight := goodIn_r _ [21] (by decide +kernel) (by decide +kernel)
set_option maxRecDepth 20000 in
theorem gX2_runDisc_X6_isNight_n116 : GoodIn wsX2_runDisc (wsX6_isNight) := ggX2_runDisc_X6_isNight
set_option maxRecDepth 20000 in
theorem ggX2_runDisc_X4_run : GoodIn wsX2_runDisc wsX4_run := goodIn_r _ [25, 26, 27, 28, 29, 18, 30, 31, 4, 5, 6, 32, 33, 34, 16, 35, 36, 44, 45, 46, 47, 48, 49, 50, 51, 52, 53, 54, 55, 56] (by decide +kernel) (by decide +kernel)
set_option maxRecDepth 20000 in
theorem gX2_runDisc_X4_run : GoodIn wsX2_runDisc (wsV RX2 120 RX4 yX4_run wsX4_run) := goodIn_app (goodIn_of _ (by decide +kernel)) ggX2_runDisc_X4_run
theorem dX2_runDisc_0 : decode cX2_runDisc 0 = .ok (.iconst 0, 1) := by decide +kernel
theorem dX2_runDisc_1 : decode cX2_runDisc 1 = .ok (.istore 4, 2) := by decide +kernel
theorem dX2_runDisc_3 : decode cX2_runDisc 3 = .ok (.iconst 0, 1) := by decide +kernel
theorem dX2_runDisc_4 : decode cX2_runDisc 4 = .ok (.istore 5, 2) := by decide +kernel
theorem dX2_runDisc_6 : decode cX2_runDisc 6 = .ok (.iload 5, 2) := by decide +kernel
theorem dX2_runDisc_8 : decode cX2_runDisc 8 = .ok (.iload_n 3, 1) := by decide +kernel
theorem dX2_runDisc_9 : decode cX2_runDisc 9 = .ok (.if_icmp .ge 78, 3) := by decide +kernel
theorem dX2_runDisc_12 : decode cX2_runDisc 12 = .ok (.aload_n 0, 1) := by decide +kernel
theorem dX2_runDisc_13 : decode cX2_runDisc 13 = .ok (.getfield 46, 3) := by decide +kernel
theorem dX2_runDisc_16 : decode cX2_runDisc 16 = .ok (.iload 5, 2) := by decide +kernel
theorem dX2_runDisc_18 : decode cX2_runDisc 18 = .ok (.iadd, 1) := by decide +kernel
theorem dX2_runDisc_19 : decode cX2_runDisc 19 = .ok (.istore 6, 2) := by decide +kernel
theorem dX2_runDisc_21 : decode cX2_runDisc 21 = .ok (.iload 6, 2) := by decide +kernel
theorem dX2_runDisc_23 : decode cX2_runDisc 23 = .ok (.invokestatic 101, 3) := by decide +kernel
theorem dX2_runDisc_26 : decode cX2_runDisc 26 = .ok (.aload_n 1, 1) := by decide +kernel
theorem dX2_runDisc_27 : decode cX2_runDisc 27 = .ok (.aload_n 0, 1) := by decide +kernel
theorem dX2_runDisc_28 : decode cX2_runDisc 28 = .ok (.getfield 9, 3) := by decide +kernel
theorem dX2_runDisc_31 : decode cX2_runDisc 31 = .ok (.iconst 3, 1) := by decide +kernel
theorem dX2_runDisc_32 : decode cX2_runDisc 32 = .ok (.iaload, 1) := by decide +kernel
theorem dX2_runDisc_33 : decode cX2_runDisc 33 = .ok (.invokevirtual 104, 3) := by decide +kernel
theorem dX2_runDisc_36 : decode cX2_runDisc 36 = .ok (.invokestatic 107, 3) := by decide +kernel
theorem dX2_runDisc_39 : decode cX2_runDisc 39 = .ok (.istore 7, 2) := by decide +kernel
theorem dX2_runDisc_41 : decode cX2_runDisc 41 = .ok (.iconst 1, 1) := by decide +kernel
theorem dX2_runDisc_42 : decode cX2_runDisc 42 = .ok (.iload 7, 2) := by decide +kernel
theorem dX2_runDisc_44 : decode cX2_runDisc 44 = .ok (.iload_n 3, 1) := by decide +kernel
theorem dX2_runDisc_45 : decode cX2_runDisc 45 = .ok (.iload 5, 2) := by decide +kernel
theorem dX2_runDisc_47 : decode cX2_runDisc 47 = .ok (.isub, 1) := by decide +kernel
theorem dX2_runDisc_48 : decode cX2_runDisc 48 = .ok (.invokestatic 107, 3) := by decide +kernel
theorem dX2_runDisc_51 : decode cX2_runDisc 51 = .ok (.invokestatic 113, 3) := by decide +kernel
theorem dX2_runDisc_54 : decode cX2_runDisc 54 = .ok (.istore 8, 2) := by decide +kernel
theorem dX2_runDisc_56 : decode cX2_runDisc 56 = .ok (.iload 4, 2) := by decide +kernel
theorem dX2_runDisc_58 : decode cX2_runDisc 58 = .ok (.aload_n 1, 1) := by decide +kernel
theorem dX2_runDisc_59 : decode cX2_runDisc 59 = .ok (.iload 8, 2) := by decide +kernel
theorem dX2_runDisc_61 : decode cX2_runDisc 61 = .ok (.iload_n 2, 1) := by decide +kernel
theorem dX2_runDisc_62 : decode cX2_runDisc 62 = .ok (.aload_n 0, 1) := by decide +kernel
theorem dX2_runDisc_63 : decode cX2_runDisc 63 = .ok (.getfield 9, 3) := by decide +kernel
theorem dX2_runDisc_66 : decode cX2_runDisc 66 = .ok (.iload 6, 2) := by decide +kernel
theorem dX2_runDisc_68 : decode cX2_runDisc 68 = .ok (.invokestatic 116, 3) := by decide +kernel
theorem dX2_runDisc_71 : decode cX2_runDisc 71 = .ok (.invokevirtual 120, 3) := by decide +kernel
theorem dX2_runDisc_74 : decode cX2_runDisc 74 = .ok (.iadd, 1) := by decide +kernel
theorem dX2_runDisc_75 : decode cX2_runDisc 75 = .ok (.istore 4, 2) := by decide +kernel
theorem dX2_runDisc_77 : decode cX2_runDisc 77 = .ok (.iload 5, 2) := by decide +kernel
theorem dX2_runDisc_79 : decode cX2_runDisc 79 = .ok (.iload 8, 2) := by decide +kernel
theorem dX2_runDisc_81 : decode cX2_runDisc 81 = .ok (.iadd, 1) := by decide +kernel
theorem dX2_runDisc_82 : decode cX2_runDisc 82 = .ok (.istore 5, 2) := by decide +kernel
theorem dX2_runDisc_84 : decode cX2_runDisc 84 = .ok (.goto (-78), 3) := by decide +kernel
theorem dX2_runDisc_87 : decode cX2_runDisc 87 = .ok (.iload 4, 2) := by decide +kernel
theorem dX2_runDisc_89 : decode cX2_runDisc 89 = .ok (.ireturn, 1) := by decide +kernel
set_option maxRecDepth 20000 in
theorem ggX2_minutesToTurn_X6_isNight : GoodIn wsX2_minutesToTurn wsX6_isNight := goodIn_r _ [5] (by decide +kernel) (by decide +kernel)
set_option maxRecDepth 20000 in
theorem gX2_minutesToTurn_X6_isNight_n116 : GoodIn wsX2_minutesToTurn (wsX6_isNight) := ggX2_minutesToTurn_X6_isNight
set_option maxRecDepth 20000 in
theorem ggX2_minutesToTurn_X4_run : GoodIn wsX2_minutesToTurn wsX4_run := goodIn_r _ [10, 11, 12, 13, 14, 15, 16, 17, 18, 19, 20, 21, 22, 23, 9, 24, 25, 33, 34, 35, 36, 37, 38, 39, 40, 41, 42, 43, 44, 45] (by decide +kernel) (by decide +kernel)
set_option maxRecDepth 20000 in
theorem gX2_minutesToTurn_X4_run : GoodIn wsX2_minutesToTurn (wsV RX2 120 RX4 yX4_run wsX4_run) := goodIn_app (goodIn_of _ (by decide +kernel)) ggX2_minutesToTurn_X4_run
theorem dX2_minutesToTurn_0 : decode cX2_minutesToTurn 0 = .ok (.iconst 0, 1) := by decide +kernel
theorem dX2_minutesToTurn_1 : decode cX2_minutesToTurn 1 = .ok (.istore_n 3, 1) := by decide +kernel
theorem dX2_minutesToTurn_2 : decode cX2_minutesToTurn 2 = .ok (.iload_n 3, 1) := by decide +kernel
theorem dX2_minutesToTurn_3 : decode cX2_minutesToTurn 3 = .ok (.sipush 3000, 3) := by decide +kernel
theorem dX2_minutesToTurn_6 : decode cX2_minutesToTurn 6 = .ok (.if_icmp .ge 35, 3) := by decide +kernel
theorem dX2_minutesToTurn_9 : decode cX2_minutesToTurn 9 = .ok (.aload_n 1, 1) := by decide +kernel
theorem dX2_minutesToTurn_10 : decode cX2_minutesToTurn 10 = .ok (.iconst 1, 1) := by decide +kernel
theorem dX2_minutesToTurn_11 : decode cX2_minutesToTurn 11 = .ok (.iload_n 2, 1) := by decide +kernel
theorem dX2_minutesToTurn_12 : decode cX2_minutesToTurn 12 = .ok (.aload_n 0, 1) := by decide +kernel
theorem dX2_minutesToTurn_13 : decode cX2_minutesToTurn 13 = .ok (.getfield 9, 3) := by decide +kernel
theorem dX2_minutesToTurn_16 : decode cX2_minutesToTurn 16 = .ok (.aload_n 0, 1) := by decide +kernel
theorem dX2_minutesToTurn_17 : decode cX2_minutesToTurn 17 = .ok (.getfield 46, 3) := by decide +kernel
theorem dX2_minutesToTurn_20 : decode cX2_minutesToTurn 20 = .ok (.iload_n 3, 1) := by decide +kernel
theorem dX2_minutesToTurn_21 : decode cX2_minutesToTurn 21 = .ok (.iadd, 1) := by decide +kernel
theorem dX2_minutesToTurn_22 : decode cX2_minutesToTurn 22 = .ok (.invokestatic 116, 3) := by decide +kernel
theorem dX2_minutesToTurn_25 : decode cX2_minutesToTurn 25 = .ok (.invokevirtual 120, 3) := by decide +kernel
theorem dX2_minutesToTurn_28 : decode cX2_minutesToTurn 28 = .ok (.ifCond .le 7, 3) := by decide +kernel
theorem dX2_minutesToTurn_31 : decode cX2_minutesToTurn 31 = .ok (.iload_n 3, 1) := by decide +kernel
theorem dX2_minutesToTurn_32 : decode cX2_minutesToTurn 32 = .ok (.iconst 1, 1) := by decide +kernel
theorem dX2_minutesToTurn_33 : decode cX2_minutesToTurn 33 = .ok (.iadd, 1) := by decide +kernel
theorem dX2_minutesToTurn_34 : decode cX2_minutesToTurn 34 = .ok (.ireturn, 1) := by decide +kernel
theorem dX2_minutesToTurn_35 : decode cX2_minutesToTurn 35 = .ok (.iinc 3 1, 3) := by decide +kernel
theorem dX2_minutesToTurn_38 : decode cX2_minutesToTurn 38 = .ok (.goto (-36), 3) := by decide +kernel
theorem dX2_minutesToTurn_41 : decode cX2_minutesToTurn 41 = .ok (.bipush (-6), 2) := by decide +kernel
theorem dX2_minutesToTurn_43 : decode cX2_minutesToTurn 43 = .ok (.ireturn, 1) := by decide +kernel
set_option maxRecDepth 20000 in
theorem ggX2_owedAt_X4_unbilledDayTurns : GoodIn wsX2_owedAt wsX4_unbilledDayTurns := goodIn_r _ [6, 7, 8, 22, 23, 24, 25, 26, 27, 28, 29, 30, 31, 32, 33, 34] (by decide +kernel) (by decide +kernel)
set_option maxRecDepth 20000 in
theorem gX2_owedAt_X4_unbilledDayTurns : GoodIn wsX2_owedAt (wsV RX2 124 RX4 yX4_unbilledDayTurns wsX4_unbilledDayTurns) := goodIn_app (goodIn_of _ (by decide +kernel)) ggX2_owedAt_X4_unbilledDayTurns
set_option maxRecDepth 20000 in
theorem ggX2_owedAt_X4_unbilledNightTurns : GoodIn wsX2_owedAt wsX4_unbilledNightTurns := goodIn_r _ [12, 13, 14, 22, 23, 24, 25, 26, 27, 28, 29, 30, 31, 32, 33, 34] (by decide +kernel) (by decide +kernel)
set_option maxRecDepth 20000 in
theorem gX2_owedAt_X4_unbilledNightTurns : GoodIn wsX2_owedAt (wsV RX2 128 RX4 yX4_unbilledNightTurns wsX4_unbilledNightTurns) := goodIn_app (goodIn_of _ (by decide +kernel)) ggX2_owedAt_X4_unbilledNightTurns
theorem dX2_owedAt_0 : decode cX2_owedAt 0 = .ok (.aload_n 1, 1) := by decide +kernel
theorem dX2_owedAt_1 : decode cX2_owedAt 1 = .ok (.invokevirtual 124, 3) := by decide +kernel
theorem dX2_owedAt_4 : decode cX2_owedAt 4 = .ok (.aload_n 0, 1) := by decide +kernel
theorem dX2_owedAt_5 : decode cX2_owedAt 5 = .ok (.getfield 9, 3) := by decide +kernel
theorem dX2_owedAt_8 : decode cX2_owedAt 8 = .ok (.iconst 4, 1) := by decide +kernel
theorem dX2_owedAt_9 : decode cX2_owedAt 9 = .ok (.iaload, 1) := by decide +kernel
theorem dX2_owedAt_10 : decode cX2_owedAt 10 = .ok (.imul, 1) := by decide +kernel
theorem dX2_owedAt_11 : decode cX2_owedAt 11 = .ok (.aload_n 1, 1) := by decide +kernel
theorem dX2_owedAt_12 : decode cX2_owedAt 12 = .ok (.invokevirtual 128, 3) := by decide +kernel
theorem dX2_owedAt_15 : decode cX2_owedAt 15 = .ok (.aload_n 0, 1) := by decide +kernel
theorem dX2_owedAt_16 : decode cX2_owedAt 16 = .ok (.getfield 9, 3) := by decide +kernel
theorem dX2_owedAt_19 : decode cX2_owedAt 19 = .ok (.iconst 5, 1) := by decide +kernel
theorem dX2_owedAt_20 : decode cX2_owedAt 20 = .ok (.iaload, 1) := by decide +kernel
theorem dX2_owedAt_21 : decode cX2_owedAt 21 = .ok (.imul, 1) := by decide +kernel
theorem dX2_owedAt_22 : decode cX2_owedAt 22 = .ok (.iadd, 1) := by decide +kernel
theorem dX2_owedAt_23 : decode cX2_owedAt 23 = .ok (.ireturn, 1) := by decide +kernel
set_option maxRecDepth 20000 in
theorem ggX2_powerOf_X2_fedThrough : GoodIn wsX2_powerOf wsX2_fedThrough := goodIn_r _ [10, 11, 12, 13, 14, 15, 9, 16, 17, 18, 19, 20, 21, 22, 23, 27, 28, 29, 30, 31, 32, 33, 34, 35, 36, 37, 38, 39] (by decide +kernel) (by decide +kernel)
set_option maxRecDepth 20000 in
theorem gX2_powerOf_X2_fedThrough : GoodIn wsX2_powerOf (wsV RX2 131 RX2 yX2_fedThrough wsX2_fedThrough) := goodIn_app (goodIn_of _ (by decide +kernel)) ggX2_powerOf_X2_fedThrough
set_option maxRecDepth 20000 in
theorem ggX2_powerOf_X2_contains : GoodIn wsX2_powerOf wsX2_contains := goodIn_r _ [16] (by decide +kernel) (by decide +kernel)
set_option maxRecDepth 20000 in
theorem gX2_powerOf_X2_contains : GoodIn wsX2_powerOf (va_wsS RX2 137 yX2_contains wsX2_contains) := goodIn_app (goodIn_of _ (by decide +kernel)) ggX2_powerOf_X2_contains
theorem dX2_powerOf_0 : decode cX2_powerOf 0 = .ok (.aload_n 0, 1) := by decide +kernel
theorem dX2_powerOf_1 : decode cX2_powerOf 1 = .ok (.iload_n 1, 1) := by decide +kernel
theorem dX2_powerOf_2 : decode cX2_powerOf 2 = .ok (.invokevirtual 131, 3) := by decide +kernel
theorem dX2_powerOf_5 : decode cX2_powerOf 5 = .ok (.istore_n 2, 1) := by decide +kernel
theorem dX2_powerOf_6 : decode cX2_powerOf 6 = .ok (.iconst 0, 1) := by decide +kernel
theorem dX2_powerOf_7 : decode cX2_powerOf 7 = .ok (.istore_n 3, 1) := by decide +kernel
theorem dX2_powerOf_8 : decode cX2_powerOf 8 = .ok (.iconst 0, 1) := by decide +kernel
theorem dX2_powerOf_9 : decode cX2_powerOf 9 = .ok (.istore 4, 2) := by decide +kernel
theorem dX2_powerOf_11 : decode cX2_powerOf 11 = .ok (.iload 4, 2) := by decide +kernel
theorem dX2_powerOf_13 : decode cX2_powerOf 13 = .ok (.aload_n 0, 1) := by decide +kernel
theorem dX2_powerOf_14 : decode cX2_powerOf 14 = .ok (.getfield 40, 3) := by decide +kernel
theorem dX2_powerOf_17 : decode cX2_powerOf 17 = .ok (.if_icmp .ge 52, 3) := by decide +kernel
theorem dX2_powerOf_20 : decode cX2_powerOf 20 = .ok (.aload_n 0, 1) := by decide +kernel
theorem dX2_powerOf_21 : decode cX2_powerOf 21 = .ok (.getfield 23, 3) := by decide +kernel
theorem dX2_powerOf_24 : decode cX2_powerOf 24 = .ok (.iload 4, 2) := by decide +kernel
theorem dX2_powerOf_26 : decode cX2_powerOf 26 = .ok (.aaload, 1) := by decide +kernel
theorem dX2_powerOf_27 : decode cX2_powerOf 27 = .ok (.getfield 71, 3) := by decide +kernel
theorem dX2_powerOf_30 : decode cX2_powerOf 30 = .ok (.ifCond .eq 33, 3) := by decide +kernel
theorem dX2_powerOf_33 : decode cX2_powerOf 33 = .ok (.iload_n 2, 1) := by decide +kernel
theorem dX2_powerOf_34 : decode cX2_powerOf 34 = .ok (.aload_n 0, 1) := by decide +kernel
theorem dX2_powerOf_35 : decode cX2_powerOf 35 = .ok (.getfield 23, 3) := by decide +kernel
theorem dX2_powerOf_38 : decode cX2_powerOf 38 = .ok (.iload 4, 2) := by decide +kernel
theorem dX2_powerOf_40 : decode cX2_powerOf 40 = .ok (.aaload, 1) := by decide +kernel
theorem dX2_powerOf_41 : decode cX2_powerOf 41 = .ok (.getfield 134, 3) := by decide +kernel
theorem dX2_powerOf_44 : decode cX2_powerOf 44 = .ok (.invokestatic 137, 3) := by decide +kernel
theorem dX2_powerOf_47 : decode cX2_powerOf 47 = .ok (.ifCond .eq 16, 3) := by decide +kernel
theorem dX2_powerOf_50 : decode cX2_powerOf 50 = .ok (.iload_n 3, 1) := by decide +kernel
theorem dX2_powerOf_51 : decode cX2_powerOf 51 = .ok (.aload_n 0, 1) := by decide +kernel
theorem dX2_powerOf_52 : decode cX2_powerOf 52 = .ok (.getfield 23, 3) := by decide +kernel
theorem dX2_powerOf_55 : decode cX2_powerOf 55 = .ok (.iload 4, 2) := by decide +kernel
theorem dX2_powerOf_57 : decode cX2_powerOf 57 = .ok (.aaload, 1) := by decide +kernel
theorem dX2_powerOf_58 : decode cX2_powerOf 58 = .ok (.getfield 141, 3) := by decide +kernel
theorem dX2_powerOf_61 : decode cX2_powerOf 61 = .ok (.iadd, 1) := by decide +kernel
theorem dX2_powerOf_62 : decode cX2_powerOf 62 = .ok (.istore_n 3, 1) := by decide +kernel
theorem dX2_powerOf_63 : decode cX2_powerOf 63 = .ok (.iinc 4 1, 3) := by decide +kernel
theorem dX2_powerOf_66 : decode cX2_powerOf 66 = .ok (.goto (-55), 3) := by decide +kernel
theorem dX2_powerOf_69 : decode cX2_powerOf 69 = .ok (.iload_n 3, 1) := by decide +kernel
theorem dX2_powerOf_70 : decode cX2_powerOf 70 = .ok (.ireturn, 1) := by decide +kernel
set_option maxRecDepth 20000 in
theorem ggX2_fedThrough_X2_contains : GoodIn wsX2_fedThrough wsX2_contains := goodIn_r _ [7] (by decide +kernel) (by decide +kernel)
set_option maxRecDepth 20000 in
theorem gX2_fedThrough_X2_contains : GoodIn wsX2_fedThrough (va_wsS RX2 137 yX2_contains wsX2_contains) := goodIn_app (goodIn_of _ (by decide +kernel)) ggX2_fedThrough_X2_contains
theorem dX2_fedThrough_0 : decode cX2_fedThrough 0 = .ok (.iconst 1, 1) := by decide +kernel
theorem dX2_fedThrough_1 : decode cX2_fedThrough 1 = .ok (.iload_n 1, 1) := by decide +kernel
theorem dX2_fedThrough_2 : decode cX2_fedThrough 2 = .ok (.ishl, 1) := by decide +kernel
theorem dX2_fedThrough_3 : decode cX2_fedThrough 3 = .ok (.istore_n 2, 1) := by decide +kernel
theorem dX2_fedThrough_4 : decode cX2_fedThrough 4 = .ok (.iload_n 1, 1) := by decide +kernel
theorem dX2_fedThrough_5 : decode cX2_fedThrough 5 = .ok (.iconst 1, 1) := by decide +kernel
theorem dX2_fedThrough_6 : decode cX2_fedThrough 6 = .ok (.iadd, 1) := by decide +kernel
theorem dX2_fedThrough_7 : decode cX2_fedThrough 7 = .ok (.istore_n 3, 1) := by decide +kernel
theorem dX2_fedThrough_8 : decode cX2_fedThrough 8 = .ok (.iload_n 3, 1) := by decide +kernel
theorem dX2_fedThrough_9 : decode cX2_fedThrough 9 = .ok (.aload_n 0, 1) := by decide +kernel
theorem dX2_fedThrough_10 : decode cX2_fedThrough 10 = .ok (.getfield 32, 3) := by decide +kernel
theorem dX2_fedThrough_13 : decode cX2_fedThrough 13 = .ok (.if_icmp .ge 31, 3) := by decide +kernel
theorem dX2_fedThrough_16 : decode cX2_fedThrough 16 = .ok (.iload_n 2, 1) := by decide +kernel
theorem dX2_fedThrough_17 : decode cX2_fedThrough 17 = .ok (.aload_n 0, 1) := by decide +kernel
theorem dX2_fedThrough_18 : decode cX2_fedThrough 18 = .ok (.getfield 17, 3) := by decide +kernel
theorem dX2_fedThrough_21 : decode cX2_fedThrough 21 = .ok (.iload_n 3, 1) := by decide +kernel
theorem dX2_fedThrough_22 : decode cX2_fedThrough 22 = .ok (.aaload, 1) := by decide +kernel
theorem dX2_fedThrough_23 : decode cX2_fedThrough 23 = .ok (.getfield 144, 3) := by decide +kernel
theorem dX2_fedThrough_26 : decode cX2_fedThrough 26 = .ok (.invokestatic 137, 3) := by decide +kernel
theorem dX2_fedThrough_29 : decode cX2_fedThrough 29 = .ok (.ifCond .eq 9, 3) := by decide +kernel
theorem dX2_fedThrough_32 : decode cX2_fedThrough 32 = .ok (.iload_n 2, 1) := by decide +kernel
theorem dX2_fedThrough_33 : decode cX2_fedThrough 33 = .ok (.iconst 1, 1) := by decide +kernel
theorem dX2_fedThrough_34 : decode cX2_fedThrough 34 = .ok (.iload_n 3, 1) := by decide +kernel
theorem dX2_fedThrough_35 : decode cX2_fedThrough 35 = .ok (.ishl, 1) := by decide +kernel
theorem dX2_fedThrough_36 : decode cX2_fedThrough 36 = .ok (.ior, 1) := by decide +kernel
theorem dX2_fedThrough_37 : decode cX2_fedThrough 37 = .ok (.istore_n 2, 1) := by decide +kernel
theorem dX2_fedThrough_38 : decode cX2_fedThrough 38 = .ok (.iinc 3 1, 3) := by decide +kernel
theorem dX2_fedThrough_41 : decode cX2_fedThrough 41 = .ok (.goto (-33), 3) := by decide +kernel
theorem dX2_fedThrough_44 : decode cX2_fedThrough 44 = .ok (.iload_n 2, 1) := by decide +kernel
theorem dX2_fedThrough_45 : decode cX2_fedThrough 45 = .ok (.ireturn, 1) := by decide +kernel
theorem dX2_contains_0 : decode cX2_contains 0 = .ok (.iload_n 0, 1) := by decide +kernel
theorem dX2_contains_1 : decode cX2_contains 1 = .ok (.iload_n 1, 1) := by decide +kernel
theorem dX2_contains_2 : decode cX2_contains 2 = .ok (.ishr, 1) := by decide +kernel
theorem dX2_contains_3 : decode cX2_contains 3 = .ok (.iconst 1, 1) := by decide +kernel
theorem dX2_contains_4 : decode cX2_contains 4 = .ok (.iand, 1) := by decide +kernel
theorem dX2_contains_5 : decode cX2_contains 5 = .ok (.iconst 1, 1) := by decide +kernel
theorem dX2_contains_6 : decode cX2_contains 6 = .ok (.if_icmp .ne 7, 3) := by decide +kernel
theorem dX2_contains_9 : decode cX2_contains 9 = .ok (.iconst 1, 1) := by decide +kernel
theorem dX2_contains_10 : decode cX2_contains 10 = .ok (.goto 4, 3) := by decide +kernel
theorem dX2_contains_13 : decode cX2_contains 13 = .ok (.iconst 0, 1) := by decide +kernel
theorem dX2_contains_14 : decode cX2_contains 14 = .ok (.ireturn, 1) := by decide +kernel
theorem dX2_loadsOn_0 : decode cX2_loadsOn 0 = .ok (.iconst 0, 1) := by decide +kernel
theorem dX2_loadsOn_1 : decode cX2_loadsOn 1 = .ok (.istore_n 1, 1) := by decide +kernel
theorem dX2_loadsOn_2 : decode cX2_loadsOn 2 = .ok (.iconst 0, 1) := by decide +kernel
theorem dX2_loadsOn_3 : decode cX2_loadsOn 3 = .ok (.istore_n 2, 1) := by decide +kernel
theorem dX2_loadsOn_4 : decode cX2_loadsOn 4 = .ok (.iload_n 2, 1) := by decide +kernel
theorem dX2_loadsOn_5 : decode cX2_loadsOn 5 = .ok (.aload_n 0, 1) := by decide +kernel
theorem dX2_loadsOn_6 : decode cX2_loadsOn 6 = .ok (.getfield 40, 3) := by decide +kernel
theorem dX2_loadsOn_9 : decode cX2_loadsOn 9 = .ok (.if_icmp .ge 31, 3) := by decide +kernel
theorem dX2_loadsOn_12 : decode cX2_loadsOn 12 = .ok (.iload_n 1, 1) := by decide +kernel
theorem dX2_loadsOn_13 : decode cX2_loadsOn 13 = .ok (.aload_n 0, 1) := by decide +kernel
theorem dX2_loadsOn_14 : decode cX2_loadsOn 14 = .ok (.getfield 23, 3) := by decide +kernel
theorem dX2_loadsOn_17 : decode cX2_loadsOn 17 = .ok (.iload_n 2, 1) := by decide +kernel
theorem dX2_loadsOn_18 : decode cX2_loadsOn 18 = .ok (.aaload, 1) := by decide +kernel
theorem dX2_loadsOn_19 : decode cX2_loadsOn 19 = .ok (.getfield 71, 3) := by decide +kernel
theorem dX2_loadsOn_22 : decode cX2_loadsOn 22 = .ok (.ifCond .eq 9, 3) := by decide +kernel
theorem dX2_loadsOn_25 : decode cX2_loadsOn 25 = .ok (.iconst 1, 1) := by decide +kernel
theorem dX2_loadsOn_26 : decode cX2_loadsOn 26 = .ok (.iload_n 2, 1) := by decide +kernel
theorem dX2_loadsOn_27 : decode cX2_loadsOn 27 = .ok (.ishl, 1) := by decide +kernel
theorem dX2_loadsOn_28 : decode cX2_loadsOn 28 = .ok (.goto 4, 3) := by decide +kernel
theorem dX2_loadsOn_31 : decode cX2_loadsOn 31 = .ok (.iconst 0, 1) := by decide +kernel
theorem dX2_loadsOn_32 : decode cX2_loadsOn 32 = .ok (.ior, 1) := by decide +kernel
theorem dX2_loadsOn_33 : decode cX2_loadsOn 33 = .ok (.istore_n 1, 1) := by decide +kernel
theorem dX2_loadsOn_34 : decode cX2_loadsOn 34 = .ok (.iinc 2 1, 3) := by decide +kernel
theorem dX2_loadsOn_37 : decode cX2_loadsOn 37 = .ok (.goto (-33), 3) := by decide +kernel
theorem dX2_loadsOn_40 : decode cX2_loadsOn 40 = .ok (.iload_n 1, 1) := by decide +kernel
theorem dX2_loadsOn_41 : decode cX2_loadsOn 41 = .ok (.ireturn, 1) := by decide +kernel
theorem dX2_sealsBroken_0 : decode cX2_sealsBroken 0 = .ok (.iconst 0, 1) := by decide +kernel
theorem dX2_sealsBroken_1 : decode cX2_sealsBroken 1 = .ok (.istore_n 1, 1) := by decide +kernel
theorem dX2_sealsBroken_2 : decode cX2_sealsBroken 2 = .ok (.iconst 0, 1) := by decide +kernel
theorem dX2_sealsBroken_3 : decode cX2_sealsBroken 3 = .ok (.istore_n 2, 1) := by decide +kernel
theorem dX2_sealsBroken_4 : decode cX2_sealsBroken 4 = .ok (.iload_n 2, 1) := by decide +kernel
theorem dX2_sealsBroken_5 : decode cX2_sealsBroken 5 = .ok (.aload_n 0, 1) := by decide +kernel
theorem dX2_sealsBroken_6 : decode cX2_sealsBroken 6 = .ok (.getfield 32, 3) := by decide +kernel
theorem dX2_sealsBroken_9 : decode cX2_sealsBroken 9 = .ok (.if_icmp .ge 31, 3) := by decide +kernel
theorem dX2_sealsBroken_12 : decode cX2_sealsBroken 12 = .ok (.iload_n 1, 1) := by decide +kernel
theorem dX2_sealsBroken_13 : decode cX2_sealsBroken 13 = .ok (.aload_n 0, 1) := by decide +kernel
theorem dX2_sealsBroken_14 : decode cX2_sealsBroken 14 = .ok (.getfield 17, 3) := by decide +kernel
theorem dX2_sealsBroken_17 : decode cX2_sealsBroken 17 = .ok (.iload_n 2, 1) := by decide +kernel
theorem dX2_sealsBroken_18 : decode cX2_sealsBroken 18 = .ok (.aaload, 1) := by decide +kernel
theorem dX2_sealsBroken_19 : decode cX2_sealsBroken 19 = .ok (.getfield 75, 3) := by decide +kernel
theorem dX2_sealsBroken_22 : decode cX2_sealsBroken 22 = .ok (.ifCond .eq 9, 3) := by decide +kernel
theorem dX2_sealsBroken_25 : decode cX2_sealsBroken 25 = .ok (.iconst 1, 1) := by decide +kernel
theorem dX2_sealsBroken_26 : decode cX2_sealsBroken 26 = .ok (.iload_n 2, 1) := by decide +kernel
theorem dX2_sealsBroken_27 : decode cX2_sealsBroken 27 = .ok (.ishl, 1) := by decide +kernel
theorem dX2_sealsBroken_28 : decode cX2_sealsBroken 28 = .ok (.goto 4, 3) := by decide +kernel
theorem dX2_sealsBroken_31 : decode cX2_sealsBroken 31 = .ok (.iconst 0, 1) := by decide +kernel
theorem dX2_sealsBroken_32 : decode cX2_sealsBroken 32 = .ok (.ior, 1) := by decide +kernel
theorem dX2_sealsBroken_33 : decode cX2_sealsBroken 33 = .ok (.istore_n 1, 1) := by decide +kernel
theorem dX2_sealsBroken_34 : decode cX2_sealsBroken 34 = .ok (.iinc 2 1, 3) := by decide +kernel
theorem dX2_sealsBroken_37 : decode cX2_sealsBroken 37 = .ok (.goto (-33), 3) := by decide +kernel
theorem dX2_sealsBroken_40 : decode cX2_sealsBroken 40 = .ok (.iload_n 1, 1) := by decide +kernel
theorem dX2_sealsBroken_41 : decode cX2_sealsBroken 41 = .ok (.ireturn, 1) := by decide +kernel
set_option maxRecDepth 20000 in
theorem ggX2_allTurns_X4_turns : GoodIn wsX2_allTurns wsX4_turns := goodIn_r _ [7, 8, 9, 17, 18, 19, 20, 21, 22, 23, 24, 25, 26, 27, 28, 29] (by decide +kernel) (by decide +kernel)
set_option maxRecDepth 20000 in
theorem gX2_allTurns_X4_turns : GoodIn wsX2_allTurns (wsV RX2 147 RX4 yX4_turns wsX4_turns) := goodIn_app (goodIn_of _ (by decide +kernel)) ggX2_allTurns_X4_turns
theorem dX2_allTurns_0 : decode cX2_allTurns 0 = .ok (.iconst 0, 1) := by decide +kernel
theorem dX2_allTurns_1 : decode cX2_allTurns 1 = .ok (.istore_n 1, 1) := by decide +kernel
theorem dX2_allTurns_2 : decode cX2_allTurns 2 = .ok (.iconst 0, 1) := by decide +kernel
theorem dX2_allTurns_3 : decode cX2_allTurns 3 = .ok (.istore_n 2, 1) := by decide +kernel
theorem dX2_allTurns_4 : decode cX2_allTurns 4 = .ok (.iload_n 2, 1) := by decide +kernel
theorem dX2_allTurns_5 : decode cX2_allTurns 5 = .ok (.aload_n 0, 1) := by decide +kernel
theorem dX2_allTurns_6 : decode cX2_allTurns 6 = .ok (.getfield 32, 3) := by decide +kernel
theorem dX2_allTurns_9 : decode cX2_allTurns 9 = .ok (.if_icmp .ge 21, 3) := by decide +kernel
theorem dX2_allTurns_12 : decode cX2_allTurns 12 = .ok (.iload_n 1, 1) := by decide +kernel
theorem dX2_allTurns_13 : decode cX2_allTurns 13 = .ok (.aload_n 0, 1) := by decide +kernel
theorem dX2_allTurns_14 : decode cX2_allTurns 14 = .ok (.getfield 17, 3) := by decide +kernel
theorem dX2_allTurns_17 : decode cX2_allTurns 17 = .ok (.iload_n 2, 1) := by decide +kernel
theorem dX2_allTurns_18 : decode cX2_allTurns 18 = .ok (.aaload, 1) := by decide +kernel
theorem dX2_allTurns_19 : decode cX2_allTurns 19 = .ok (.invokevirtual 147, 3) := by decide +kernel
theorem dX2_allTurns_22 : decode cX2_allTurns 22 = .ok (.iadd, 1) := by decide +kernel
theorem dX2_allTurns_23 : decode cX2_allTurns 23 = .ok (.istore_n 1, 1) := by decide +kernel
theorem dX2_allTurns_24 : decode cX2_allTurns 24 = .ok (.iinc 2 1, 3) := by decide +kernel
theorem dX2_allTurns_27 : decode cX2_allTurns 27 = .ok (.goto (-23), 3) := by decide +kernel
theorem dX2_allTurns_30 : decode cX2_allTurns 30 = .ok (.iload_n 1, 1) := by decide +kernel
theorem dX2_allTurns_31 : decode cX2_allTurns 31 = .ok (.ireturn, 1) := by decide +kernel
theorem dX2_allBilled_0 : decode cX2_allBilled 0 = .ok (.iconst 0, 1) := by decide +kernel
theorem dX2_allBilled_1 : decode cX2_allBilled 1 = .ok (.istore_n 1, 1) := by decide +kernel
theorem dX2_allBilled_2 : decode cX2_allBilled 2 = .ok (.iconst 0, 1) := by decide +kernel
theorem dX2_allBilled_3 : decode cX2_allBilled 3 = .ok (.istore_n 2, 1) := by decide +kernel
theorem dX2_allBilled_4 : decode cX2_allBilled 4 = .ok (.iload_n 2, 1) := by decide +kernel
theorem dX2_allBilled_5 : decode cX2_allBilled 5 = .ok (.aload_n 0, 1) := by decide +kernel
theorem dX2_allBilled_6 : decode cX2_allBilled 6 = .ok (.getfield 32, 3) := by decide +kernel
theorem dX2_allBilled_9 : decode cX2_allBilled 9 = .ok (.if_icmp .ge 21, 3) := by decide +kernel
theorem dX2_allBilled_12 : decode cX2_allBilled 12 = .ok (.iload_n 1, 1) := by decide +kernel
theorem dX2_allBilled_13 : decode cX2_allBilled 13 = .ok (.aload_n 0, 1) := by decide +kernel
theorem dX2_allBilled_14 : decode cX2_allBilled 14 = .ok (.getfield 17, 3) := by decide +kernel
theorem dX2_allBilled_17 : decode cX2_allBilled 17 = .ok (.iload_n 2, 1) := by decide +kernel
theorem dX2_allBilled_18 : decode cX2_allBilled 18 = .ok (.aaload, 1) := by decide +kernel
theorem dX2_allBilled_19 : decode cX2_allBilled 19 = .ok (.getfield 150, 3) := by decide +kernel
theorem dX2_allBilled_22 : decode cX2_allBilled 22 = .ok (.iadd, 1) := by decide +kernel
theorem dX2_allBilled_23 : decode cX2_allBilled 23 = .ok (.istore_n 1, 1) := by decide +kernel
theorem dX2_allBilled_24 : decode cX2_allBilled 24 = .ok (.iinc 2 1, 3) := by decide +kernel
theorem dX2_allBilled_27 : decode cX2_allBilled 27 = .ok (.goto (-23), 3) := by decide +kernel
theorem dX2_allBilled_30 : decode cX2_allBilled 30 = .ok (.iload_n 1, 1) := by decide +kernel
theorem dX2_allBilled_31 : decode cX2_allBilled 31 = .ok (.ireturn, 1) := by decide +kernel
set_option maxRecDepth 20000 in
theorem ggX2_mostMissing_X4_missed : GoodIn wsX2_mostMissing wsX4_missed := goodIn_r _ [7, 8, 9, 10, 11, 12, 13, 6, 14, 15, 16, 24, 25, 26, 27, 28, 29, 30, 31, 32, 33, 34, 35, 36] (by decide +kernel) (by decide +kernel)
set_option maxRecDepth 20000 in
theorem gX2_mostMissing_X4_missed : GoodIn wsX2_mostMissing (wsV RX2 153 RX4 yX4_missed wsX4_missed) := goodIn_app (goodIn_of _ (by decide +kernel)) ggX2_mostMissing_X4_missed
theorem dX2_mostMissing_0 : decode cX2_mostMissing 0 = .ok (.aload_n 0, 1) := by decide +kernel
theorem dX2_mostMissing_1 : decode cX2_mostMissing 1 = .ok (.getfield 32, 3) := by decide +kernel
theorem dX2_mostMissing_4 : decode cX2_mostMissing 4 = .ok (.ifCond .ne 6, 3) := by decide +kernel
theorem dX2_mostMissing_7 : decode cX2_mostMissing 7 = .ok (.bipush (-6), 2) := by decide +kernel
theorem dX2_mostMissing_9 : decode cX2_mostMissing 9 = .ok (.ireturn, 1) := by decide +kernel
theorem dX2_mostMissing_10 : decode cX2_mostMissing 10 = .ok (.iconst 0, 1) := by decide +kernel
theorem dX2_mostMissing_11 : decode cX2_mostMissing 11 = .ok (.istore_n 1, 1) := by decide +kernel
theorem dX2_mostMissing_12 : decode cX2_mostMissing 12 = .ok (.iconst 1, 1) := by decide +kernel
theorem dX2_mostMissing_13 : decode cX2_mostMissing 13 = .ok (.istore_n 2, 1) := by decide +kernel
theorem dX2_mostMissing_14 : decode cX2_mostMissing 14 = .ok (.iload_n 2, 1) := by decide +kernel
theorem dX2_mostMissing_15 : decode cX2_mostMissing 15 = .ok (.aload_n 0, 1) := by decide +kernel
theorem dX2_mostMissing_16 : decode cX2_mostMissing 16 = .ok (.getfield 32, 3) := by decide +kernel
theorem dX2_mostMissing_19 : decode cX2_mostMissing 19 = .ok (.if_icmp .ge 33, 3) := by decide +kernel
theorem dX2_mostMissing_22 : decode cX2_mostMissing 22 = .ok (.aload_n 0, 1) := by decide +kernel
theorem dX2_mostMissing_23 : decode cX2_mostMissing 23 = .ok (.getfield 17, 3) := by decide +kernel
theorem dX2_mostMissing_26 : decode cX2_mostMissing 26 = .ok (.iload_n 2, 1) := by decide +kernel
theorem dX2_mostMissing_27 : decode cX2_mostMissing 27 = .ok (.aaload, 1) := by decide +kernel
theorem dX2_mostMissing_28 : decode cX2_mostMissing 28 = .ok (.invokevirtual 153, 3) := by decide +kernel
theorem dX2_mostMissing_31 : decode cX2_mostMissing 31 = .ok (.aload_n 0, 1) := by decide +kernel
theorem dX2_mostMissing_32 : decode cX2_mostMissing 32 = .ok (.getfield 17, 3) := by decide +kernel
theorem dX2_mostMissing_35 : decode cX2_mostMissing 35 = .ok (.iload_n 1, 1) := by decide +kernel
theorem dX2_mostMissing_36 : decode cX2_mostMissing 36 = .ok (.aaload, 1) := by decide +kernel
theorem dX2_mostMissing_37 : decode cX2_mostMissing 37 = .ok (.invokevirtual 153, 3) := by decide +kernel
theorem dX2_mostMissing_40 : decode cX2_mostMissing 40 = .ok (.lcmp, 1) := by decide +kernel
theorem dX2_mostMissing_41 : decode cX2_mostMissing 41 = .ok (.ifCond .le 5, 3) := by decide +kernel
theorem dX2_mostMissing_44 : decode cX2_mostMissing 44 = .ok (.iload_n 2, 1) := by decide +kernel
theorem dX2_mostMissing_45 : decode cX2_mostMissing 45 = .ok (.istore_n 1, 1) := by decide +kernel
theorem dX2_mostMissing_46 : decode cX2_mostMissing 46 = .ok (.iinc 2 1, 3) := by decide +kernel
theorem dX2_mostMissing_49 : decode cX2_mostMissing 49 = .ok (.goto (-35), 3) := by decide +kernel
theorem dX2_mostMissing_52 : decode cX2_mostMissing 52 = .ok (.iload_n 1, 1) := by decide +kernel
theorem dX2_mostMissing_53 : decode cX2_mostMissing 53 = .ok (.ireturn, 1) := by decide +kernel
set_option maxRecDepth 20000 in
theorem ggX2_turnsBehind_X4_turns : GoodIn wsX2_turnsBehind wsX4_turns := goodIn_r _ [8, 9, 10, 18, 19, 20, 21, 22, 23, 24, 25, 26, 27, 28, 29, 30] (by decide +kernel) (by decide +kernel)
set_option maxRecDepth 20000 in
theorem gX2_turnsBehind_X4_turns : GoodIn wsX2_turnsBehind (wsV RX2 147 RX4 yX4_turns wsX4_turns) := goodIn_app (goodIn_of _ (by decide +kernel)) ggX2_turnsBehind_X4_turns
theorem dX2_turnsBehind_0 : decode cX2_turnsBehind 0 = .ok (.iconst 0, 1) := by decide +kernel
theorem dX2_turnsBehind_1 : decode cX2_turnsBehind 1 = .ok (.istore_n 2, 1) := by decide +kernel
theorem dX2_turnsBehind_2 : decode cX2_turnsBehind 2 = .ok (.iload_n 1, 1) := by decide +kernel
theorem dX2_turnsBehind_3 : decode cX2_turnsBehind 3 = .ok (.iconst 1, 1) := by decide +kernel
theorem dX2_turnsBehind_4 : decode cX2_turnsBehind 4 = .ok (.iadd, 1) := by decide +kernel
theorem dX2_turnsBehind_5 : decode cX2_turnsBehind 5 = .ok (.istore_n 3, 1) := by decide +kernel
theorem dX2_turnsBehind_6 : decode cX2_turnsBehind 6 = .ok (.iload_n 3, 1) := by decide +kernel
theorem dX2_turnsBehind_7 : decode cX2_turnsBehind 7 = .ok (.aload_n 0, 1) := by decide +kernel
theorem dX2_turnsBehind_8 : decode cX2_turnsBehind 8 = .ok (.getfield 32, 3) := by decide +kernel
theorem dX2_turnsBehind_11 : decode cX2_turnsBehind 11 = .ok (.if_icmp .ge 34, 3) := by decide +kernel
theorem dX2_turnsBehind_14 : decode cX2_turnsBehind 14 = .ok (.aload_n 0, 1) := by decide +kernel
theorem dX2_turnsBehind_15 : decode cX2_turnsBehind 15 = .ok (.getfield 17, 3) := by decide +kernel
theorem dX2_turnsBehind_18 : decode cX2_turnsBehind 18 = .ok (.iload_n 3, 1) := by decide +kernel
theorem dX2_turnsBehind_19 : decode cX2_turnsBehind 19 = .ok (.aaload, 1) := by decide +kernel
theorem dX2_turnsBehind_20 : decode cX2_turnsBehind 20 = .ok (.getfield 144, 3) := by decide +kernel
theorem dX2_turnsBehind_23 : decode cX2_turnsBehind 23 = .ok (.iload_n 1, 1) := by decide +kernel
theorem dX2_turnsBehind_24 : decode cX2_turnsBehind 24 = .ok (.if_icmp .ne 15, 3) := by decide +kernel
theorem dX2_turnsBehind_27 : decode cX2_turnsBehind 27 = .ok (.iload_n 2, 1) := by decide +kernel
theorem dX2_turnsBehind_28 : decode cX2_turnsBehind 28 = .ok (.aload_n 0, 1) := by decide +kernel
theorem dX2_turnsBehind_29 : decode cX2_turnsBehind 29 = .ok (.getfield 17, 3) := by decide +kernel
theorem dX2_turnsBehind_32 : decode cX2_turnsBehind 32 = .ok (.iload_n 3, 1) := by decide +kernel
theorem dX2_turnsBehind_33 : decode cX2_turnsBehind 33 = .ok (.aaload, 1) := by decide +kernel
theorem dX2_turnsBehind_34 : decode cX2_turnsBehind 34 = .ok (.invokevirtual 147, 3) := by decide +kernel
theorem dX2_turnsBehind_37 : decode cX2_turnsBehind 37 = .ok (.iadd, 1) := by decide +kernel
theorem dX2_turnsBehind_38 : decode cX2_turnsBehind 38 = .ok (.istore_n 2, 1) := by decide +kernel
theorem dX2_turnsBehind_39 : decode cX2_turnsBehind 39 = .ok (.iinc 3 1, 3) := by decide +kernel
theorem dX2_turnsBehind_42 : decode cX2_turnsBehind 42 = .ok (.goto (-36), 3) := by decide +kernel
theorem dX2_turnsBehind_45 : decode cX2_turnsBehind 45 = .ok (.iload_n 2, 1) := by decide +kernel
theorem dX2_turnsBehind_46 : decode cX2_turnsBehind 46 = .ok (.aload_n 0, 1) := by decide +kernel
theorem dX2_turnsBehind_47 : decode cX2_turnsBehind 47 = .ok (.getfield 17, 3) := by decide +kernel
theorem dX2_turnsBehind_50 : decode cX2_turnsBehind 50 = .ok (.iload_n 1, 1) := by decide +kernel
theorem dX2_turnsBehind_51 : decode cX2_turnsBehind 51 = .ok (.aaload, 1) := by decide +kernel
theorem dX2_turnsBehind_52 : decode cX2_turnsBehind 52 = .ok (.invokevirtual 147, 3) := by decide +kernel
theorem dX2_turnsBehind_55 : decode cX2_turnsBehind 55 = .ok (.isub, 1) := by decide +kernel
theorem dX2_turnsBehind_56 : decode cX2_turnsBehind 56 = .ok (.ireturn, 1) := by decide +kernel
set_option maxRecDepth 20000 in
theorem ggX3_init_X3_begin : GoodIn wsX3_init wsX3_begin := goodIn_r _ [8, 9, 10, 11, 12, 13, 14] (by decide +kernel) (by decide +kernel)
set_option maxRecDepth 20000 in
theorem gX3_init_X3_begin : GoodIn wsX3_init (wsV RX3 7 RX3 yX3_begin wsX3_begin) := goodIn_app (goodIn_of _ (by decide +kernel)) ggX3_init_X3_begin
theorem dX3_init_0 : decode cX3_init 0 = .ok (.aload_n 0, 1) := by decide +kernel
theorem dX3_init_1 : decode cX3_init 1 = .ok (.invokespecial 1, 3) := by decide +kernel
theorem dX3_init_4 : decode cX3_init 4 = .ok (.aload_n 0, 1) := by decide +kernel
theorem dX3_init_5 : decode cX3_init 5 = .ok (.iconst 0, 1) := by decide +kernel
theorem dX3_init_6 : decode cX3_init 6 = .ok (.iconst 0, 1) := by decide +kernel
theorem dX3_init_7 : decode cX3_init 7 = .ok (.invokevirtual 7, 3) := by decide +kernel
theorem dX3_init_10 : decode cX3_init 10 = .ok (.return_, 1) := by decide +kernel
theorem dX3_begin_0 : decode cX3_begin 0 = .ok (.aload_n 0, 1) := by decide +kernel
theorem dX3_begin_1 : decode cX3_begin 1 = .ok (.iload_n 1, 1) := by decide +kernel
theorem dX3_begin_2 : decode cX3_begin 2 = .ok (.putfield 13, 3) := by decide +kernel
theorem dX3_begin_5 : decode cX3_begin 5 = .ok (.aload_n 0, 1) := by decide +kernel
theorem dX3_begin_6 : decode cX3_begin 6 = .ok (.iload_n 2, 1) := by decide +kernel
theorem dX3_begin_7 : decode cX3_begin 7 = .ok (.putfield 17, 3) := by decide +kernel
theorem dX3_begin_10 : decode cX3_begin 10 = .ok (.aload_n 0, 1) := by decide +kernel
theorem dX3_begin_11 : decode cX3_begin 11 = .ok (.iconst 0, 1) := by decide +kernel
theorem dX3_begin_12 : decode cX3_begin 12 = .ok (.putfield 20, 3) := by decide +kernel
theorem dX3_begin_15 : decode cX3_begin 15 = .ok (.return_, 1) := by decide +kernel
theorem dX3_copyFrom_0 : decode cX3_copyFrom 0 = .ok (.aload_n 0, 1) := by decide +kernel
theorem dX3_copyFrom_1 : decode cX3_copyFrom 1 = .ok (.aload_n 1, 1) := by decide +kernel
theorem dX3_copyFrom_2 : decode cX3_copyFrom 2 = .ok (.getfield 13, 3) := by decide +kernel
theorem dX3_copyFrom_5 : decode cX3_copyFrom 5 = .ok (.putfield 13, 3) := by decide +kernel
theorem dX3_copyFrom_8 : decode cX3_copyFrom 8 = .ok (.aload_n 0, 1) := by decide +kernel
theorem dX3_copyFrom_9 : decode cX3_copyFrom 9 = .ok (.aload_n 1, 1) := by decide +kernel
theorem dX3_copyFrom_10 : decode cX3_copyFrom 10 = .ok (.getfield 17, 3) := by decide +kernel
theorem dX3_copyFrom_13 : decode cX3_copyFrom 13 = .ok (.putfield 17, 3) := by decide +kernel
theorem dX3_copyFrom_16 : decode cX3_copyFrom 16 = .ok (.aload_n 0, 1) := by decide +kernel
theorem dX3_copyFrom_17 : decode cX3_copyFrom 17 = .ok (.aload_n 1, 1) := by decide +kernel
theorem dX3_copyFrom_18 : decode cX3_copyFrom 18 = .ok (.getfield 20, 3) := by decide +kernel
theorem dX3_copyFrom_21 : decode cX3_copyFrom 21 = .ok (.putfield 20, 3) := by decide +kernel
theorem dX3_copyFrom_24 : decode cX3_copyFrom 24 = .ok (.return_, 1) := by decide +kernel
set_option maxRecDepth 20000 in
theorem ggX4_init_X4_begin : GoodIn wsX4_init wsX4_begin := goodIn_r _ [8, 9, 10, 11, 12, 13, 14, 15, 16, 17, 18, 19, 20, 21, 22, 23, 24, 25, 26, 27, 28, 29, 30, 31, 32, 33, 34] (by decide +kernel) (by decide +kernel)
set_option maxRecDepth 20000 in
theorem gX4_init_X4_begin : GoodIn wsX4_init (wsV RX4 9 RX4 yX4_begin wsX4_begin) := goodIn_app (goodIn_of _ (by decide +kernel)) ggX4_init_X4_begin
theorem dX4_init_0 : decode cX4_init 0 = .ok (.aload_n 0, 1) := by decide +kernel
theorem dX4_init_1 : decode cX4_init 1 = .ok (.invokespecial 3, 3) := by decide +kernel
theorem dX4_init_4 : decode cX4_init 4 = .ok (.aload_n 0, 1) := by decide +kernel
theorem dX4_init_5 : decode cX4_init 5 = .ok (.bipush (-6), 2) := by decide +kernel
theorem dX4_init_7 : decode cX4_init 7 = .ok (.iconst 0, 1) := by decide +kernel
theorem dX4_init_8 : decode cX4_init 8 = .ok (.invokevirtual 9, 3) := by decide +kernel
theorem dX4_init_11 : decode cX4_init 11 = .ok (.return_, 1) := by decide +kernel
theorem dX4_begin_0 : decode cX4_begin 0 = .ok (.aload_n 0, 1) := by decide +kernel
theorem dX4_begin_1 : decode cX4_begin 1 = .ok (.iload_n 1, 1) := by decide +kernel
theorem dX4_begin_2 : decode cX4_begin 2 = .ok (.putfield 15, 3) := by decide +kernel
theorem dX4_begin_5 : decode cX4_begin 5 = .ok (.aload_n 0, 1) := by decide +kernel
theorem dX4_begin_6 : decode cX4_begin 6 = .ok (.iconst 0, 1) := by decide +kernel
theorem dX4_begin_7 : decode cX4_begin 7 = .ok (.putfield 19, 3) := by decide +kernel
theorem dX4_begin_10 : decode cX4_begin 10 = .ok (.aload_n 0, 1) := by decide +kernel
theorem dX4_begin_11 : decode cX4_begin 11 = .ok (.bipush 100, 2) := by decide +kernel
theorem dX4_begin_13 : decode cX4_begin 13 = .ok (.putfield 22, 3) := by decide +kernel
theorem dX4_begin_16 : decode cX4_begin 16 = .ok (.aload_n 0, 1) := by decide +kernel
theorem dX4_begin_17 : decode cX4_begin 17 = .ok (.iconst 0, 1) := by decide +kernel
theorem dX4_begin_18 : decode cX4_begin 18 = .ok (.putfield 25, 3) := by decide +kernel
theorem dX4_begin_21 : decode cX4_begin 21 = .ok (.aload_n 0, 1) := by decide +kernel
theorem dX4_begin_22 : decode cX4_begin 22 = .ok (.iconst 0, 1) := by decide +kernel
theorem dX4_begin_23 : decode cX4_begin 23 = .ok (.putfield 28, 3) := by decide +kernel
theorem dX4_begin_26 : decode cX4_begin 26 = .ok (.aload_n 0, 1) := by decide +kernel
theorem dX4_begin_27 : decode cX4_begin 27 = .ok (.iconst 0, 1) := by decide +kernel
theorem dX4_begin_28 : decode cX4_begin 28 = .ok (.putfield 31, 3) := by decide +kernel
theorem dX4_begin_31 : decode cX4_begin 31 = .ok (.aload_n 0, 1) := by decide +kernel
theorem dX4_begin_32 : decode cX4_begin 32 = .ok (.iconst 0, 1) := by decide +kernel
theorem dX4_begin_33 : decode cX4_begin 33 = .ok (.putfield 34, 3) := by decide +kernel
theorem dX4_begin_36 : decode cX4_begin 36 = .ok (.aload_n 0, 1) := by decide +kernel
theorem dX4_begin_37 : decode cX4_begin 37 = .ok (.iconst 0, 1) := by decide +kernel
theorem dX4_begin_38 : decode cX4_begin 38 = .ok (.putfield 37, 3) := by decide +kernel
theorem dX4_begin_41 : decode cX4_begin 41 = .ok (.aload_n 0, 1) := by decide +kernel
theorem dX4_begin_42 : decode cX4_begin 42 = .ok (.lconst 0, 1) := by decide +kernel
theorem dX4_begin_43 : decode cX4_begin 43 = .ok (.putfield 40, 3) := by decide +kernel
theorem dX4_begin_46 : decode cX4_begin 46 = .ok (.aload_n 0, 1) := by decide +kernel
theorem dX4_begin_47 : decode cX4_begin 47 = .ok (.iload_n 2, 1) := by decide +kernel
theorem dX4_begin_48 : decode cX4_begin 48 = .ok (.putfield 44, 3) := by decide +kernel
theorem dX4_begin_51 : decode cX4_begin 51 = .ok (.aload_n 0, 1) := by decide +kernel
theorem dX4_begin_52 : decode cX4_begin 52 = .ok (.iconst 0, 1) := by decide +kernel
theorem dX4_begin_53 : decode cX4_begin 53 = .ok (.putfield 47, 3) := by decide +kernel
theorem dX4_begin_56 : decode cX4_begin 56 = .ok (.aload_n 0, 1) := by decide +kernel
theorem dX4_begin_57 : decode cX4_begin 57 = .ok (.iconst 0, 1) := by decide +kernel
theorem dX4_begin_58 : decode cX4_begin 58 = .ok (.putfield 51, 3) := by decide +kernel
theorem dX4_begin_61 : decode cX4_begin 61 = .ok (.aload_n 0, 1) := by decide +kernel
theorem dX4_begin_62 : decode cX4_begin 62 = .ok (.iconst 0, 1) := by decide +kernel
theorem dX4_begin_63 : decode cX4_begin 63 = .ok (.putfield 54, 3) := by decide +kernel
theorem dX4_begin_66 : decode cX4_begin 66 = .ok (.return_, 1) := by decide +kernel
theorem dX4_copyFrom_0 : decode cX4_copyFrom 0 = .ok (.aload_n 0, 1) := by decide +kernel
theorem dX4_copyFrom_1 : decode cX4_copyFrom 1 = .ok (.aload_n 1, 1) := by decide +kernel
theorem dX4_copyFrom_2 : decode cX4_copyFrom 2 = .ok (.getfield 15, 3) := by decide +kernel
theorem dX4_copyFrom_5 : decode cX4_copyFrom 5 = .ok (.putfield 15, 3) := by decide +kernel
theorem dX4_copyFrom_8 : decode cX4_copyFrom 8 = .ok (.aload_n 0, 1) := by decide +kernel
theorem dX4_copyFrom_9 : decode cX4_copyFrom 9 = .ok (.aload_n 1, 1) := by decide +kernel
theorem dX4_copyFrom_10 : decode cX4_copyFrom 10 = .ok (.getfield 19, 3) := by decide +kernel
theorem dX4_copyFrom_13 : decode cX4_copyFrom 13 = .ok (.putfield 19, 3) := by decide +kernel
theorem dX4_copyFrom_16 : decode cX4_copyFrom 16 = .ok (.aload_n 0, 1) := by decide +kernel
theorem dX4_copyFrom_17 : decode cX4_copyFrom 17 = .ok (.aload_n 1, 1) := by decide +kernel
theorem dX4_copyFrom_18 : decode cX4_copyFrom 18 = .ok (.getfield 22, 3) := by decide +kernel
theorem dX4_copyFrom_21 : decode cX4_copyFrom 21 = .ok (.putfield 22, 3) := by decide +kernel
theorem dX4_copyFrom_24 : decode cX4_copyFrom 24 = .ok (.aload_n 0, 1) := by decide +kernel
theorem dX4_copyFrom_25 : decode cX4_copyFrom 25 = .ok (.aload_n 1, 1) := by decide +kernel
theorem dX4_copyFrom_26 : decode cX4_copyFrom 26 = .ok (.getfield 25, 3) := by decide +kernel
theorem dX4_copyFrom_29 : decode cX4_copyFrom 29 = .ok (.putfield 25, 3) := by decide +kernel
theorem dX4_copyFrom_32 : decode cX4_copyFrom 32 = .ok (.aload_n 0, 1) := by decide +kernel
theorem dX4_copyFrom_33 : decode cX4_copyFrom 33 = .ok (.aload_n 1, 1) := by decide +kernel
theorem dX4_copyFrom_34 : decode cX4_copyFrom 34 = .ok (.getfield 28, 3) := by decide +kernel
theorem dX4_copyFrom_37 : decode cX4_copyFrom 37 = .ok (.putfield 28, 3) := by decide +kernel
theorem dX4_copyFrom_40 : decode cX4_copyFrom 40 = .ok (.aload_n 0, 1) := by decide +kernel
theorem dX4_copyFrom_41 : decode cX4_copyFrom 41 = .ok (.aload_n 1, 1) := by decide +kernel
theorem dX4_copyFrom_42 : decode cX4_copyFrom 42 = .ok (.getfield 31, 3) := by decide +kernel
theorem dX4_copyFrom_45 : decode cX4_copyFrom 45 = .ok (.putfield 31, 3) := by decide +kernel
theorem dX4_copyFrom_48 : decode cX4_copyFrom 48 = .ok (.aload_n 0, 1) := by decide +kernel
theorem dX4_copyFrom_49 : decode cX4_copyFrom 49 = .ok (.aload_n 1, 1) := by decide +kernel
theorem dX4_copyFrom_50 : decode cX4_copyFrom 50 = .ok (.getfield 34, 3) := by decide +kernel
theorem dX4_copyFrom_53 : decode cX4_copyFrom 53 = .ok (.putfield 34, 3) := by decide +kernel
theorem dX4_copyFrom_56 : decode cX4_copyFrom 56 = .ok (.aload_n 0, 1) := by decide +kernel
theorem dX4_copyFrom_57 : decode cX4_copyFrom 57 = .ok (.aload_n 1, 1) := by decide +kernel
theorem dX4_copyFrom_58 : decode cX4_copyFrom 58 = .ok (.getfield 37, 3) := by decide +kernel
theorem dX4_copyFrom_61 : decode cX4_copyFrom 61 = .ok (.putfield 37, 3) := by decide +kernel
theorem dX4_copyFrom_64 : decode cX4_copyFrom 64 = .ok (.aload_n 0, 1) := by decide +kernel
theorem dX4_copyFrom_65 : decode cX4_copyFrom 65 = .ok (.aload_n 1, 1) := by decide +kernel
theorem dX4_copyFrom_66 : decode cX4_copyFrom 66 = .ok (.getfield 40, 3) := by decide +kernel
theorem dX4_copyFrom_69 : decode cX4_copyFrom 69 = .ok (.putfield 40, 3) := by decide +kernel
theorem dX4_copyFrom_72 : decode cX4_copyFrom 72 = .ok (.aload_n 0, 1) := by decide +kernel
theorem dX4_copyFrom_73 : decode cX4_copyFrom 73 = .ok (.aload_n 1, 1) := by decide +kernel
theorem dX4_copyFrom_74 : decode cX4_copyFrom 74 = .ok (.getfield 44, 3) := by decide +kernel
theorem dX4_copyFrom_77 : decode cX4_copyFrom 77 = .ok (.putfield 44, 3) := by decide +kernel
theorem dX4_copyFrom_80 : decode cX4_copyFrom 80 = .ok (.aload_n 0, 1) := by decide +kernel
theorem dX4_copyFrom_81 : decode cX4_copyFrom 81 = .ok (.aload_n 1, 1) := by decide +kernel
theorem dX4_copyFrom_82 : decode cX4_copyFrom 82 = .ok (.getfield 47, 3) := by decide +kernel
theorem dX4_copyFrom_85 : decode cX4_copyFrom 85 = .ok (.putfield 47, 3) := by decide +kernel
theorem dX4_copyFrom_88 : decode cX4_copyFrom 88 = .ok (.aload_n 0, 1) := by decide +kernel
theorem dX4_copyFrom_89 : decode cX4_copyFrom 89 = .ok (.aload_n 1, 1) := by decide +kernel
theorem dX4_copyFrom_90 : decode cX4_copyFrom 90 = .ok (.getfield 51, 3) := by decide +kernel
theorem dX4_copyFrom_93 : decode cX4_copyFrom 93 = .ok (.putfield 51, 3) := by decide +kernel
theorem dX4_copyFrom_96 : decode cX4_copyFrom 96 = .ok (.aload_n 0, 1) := by decide +kernel
theorem dX4_copyFrom_97 : decode cX4_copyFrom 97 = .ok (.aload_n 1, 1) := by decide +kernel
theorem dX4_copyFrom_98 : decode cX4_copyFrom 98 = .ok (.getfield 54, 3) := by decide +kernel
theorem dX4_copyFrom_101 : decode cX4_copyFrom 101 = .ok (.putfield 54, 3) := by decide +kernel
theorem dX4_copyFrom_104 : decode cX4_copyFrom 104 = .ok (.return_, 1) := by decide +kernel
theorem dX4_turns_0 : decode cX4_turns 0 = .ok (.aload_n 0, 1) := by decide +kernel
theorem dX4_turns_1 : decode cX4_turns 1 = .ok (.getfield 28, 3) := by decide +kernel
theorem dX4_turns_4 : decode cX4_turns 4 = .ok (.aload_n 0, 1) := by decide +kernel
theorem dX4_turns_5 : decode cX4_turns 5 = .ok (.getfield 31, 3) := by decide +kernel
theorem dX4_turns_8 : decode cX4_turns 8 = .ok (.iadd, 1) := by decide +kernel
theorem dX4_turns_9 : decode cX4_turns 9 = .ok (.ireturn, 1) := by decide +kernel
theorem dX4_unbilledDayTurns_0 : decode cX4_unbilledDayTurns 0 = .ok (.aload_n 0, 1) := by decide +kernel
theorem dX4_unbilledDayTurns_1 : decode cX4_unbilledDayTurns 1 = .ok (.getfield 28, 3) := by decide +kernel
theorem dX4_unbilledDayTurns_4 : decode cX4_unbilledDayTurns 4 = .ok (.aload_n 0, 1) := by decide +kernel
theorem dX4_unbilledDayTurns_5 : decode cX4_unbilledDayTurns 5 = .ok (.getfield 34, 3) := by decide +kernel
theorem dX4_unbilledDayTurns_8 : decode cX4_unbilledDayTurns 8 = .ok (.isub, 1) := by decide +kernel
theorem dX4_unbilledDayTurns_9 : decode cX4_unbilledDayTurns 9 = .ok (.ireturn, 1) := by decide +kernel
theorem dX4_unbilledNightTurns_0 : decode cX4_unbilledNightTurns 0 = .ok (.aload_n 0, 1) := by decide +kernel
theorem dX4_unbilledNightTurns_1 : decode cX4_unbilledNightTurns 1 = .ok (.getfield 31, 3) := by decide +kernel
theorem dX4_unbilledNightTurns_4 : decode cX4_unbilledNightTurns 4 = .ok (.aload_n 0, 1) := by decide +kernel
theorem dX4_unbilledNightTurns_5 : decode cX4_unbilledNightTurns 5 = .ok (.getfield 37, 3) := by decide +kernel
theorem dX4_unbilledNightTurns_8 : decode cX4_unbilledNightTurns 8 = .ok (.isub, 1) := by decide +kernel
theorem dX4_unbilledNightTurns_9 : decode cX4_unbilledNightTurns 9 = .ok (.ireturn, 1) := by decide +kernel
set_option maxRecDepth 20000 in
theorem ggX4_missed_X4_turns : GoodIn wsX4_missed wsX4_turns := goodIn_r _ [8, 9, 10, 11, 12, 13, 14, 15, 16, 17, 18, 19, 20, 21, 22, 23] (by decide +kernel) (by decide +kernel)
set_option maxRecDepth 20000 in
theorem gX4_missed_X4_turns : GoodIn wsX4_missed (wsV RX4 59 RX4 yX4_turns wsX4_turns) := goodIn_app (goodIn_of _ (by decide +kernel)) ggX4_missed_X4_turns
theorem dX4_missed_0 : decode cX4_missed 0 = .ok (.aload_n 0, 1) := by decide +kernel
theorem dX4_missed_1 : decode cX4_missed 1 = .ok (.getfield 40, 3) := by decide +kernel
theorem dX4_missed_4 : decode cX4_missed 4 = .ok (.ldc2_w 57, 3) := by decide +kernel
theorem dX4_missed_7 : decode cX4_missed 7 = .ok (.aload_n 0, 1) := by decide +kernel
theorem dX4_missed_8 : decode cX4_missed 8 = .ok (.invokevirtual 59, 3) := by decide +kernel
theorem dX4_missed_11 : decode cX4_missed 11 = .ok (.i2l, 1) := by decide +kernel
theorem dX4_missed_12 : decode cX4_missed 12 = .ok (.lmul, 1) := by decide +kernel
theorem dX4_missed_13 : decode cX4_missed 13 = .ok (.lsub, 1) := by decide +kernel
theorem dX4_missed_14 : decode cX4_missed 14 = .ok (.aload_n 0, 1) := by decide +kernel
theorem dX4_missed_15 : decode cX4_missed 15 = .ok (.getfield 19, 3) := by decide +kernel
theorem dX4_missed_18 : decode cX4_missed 18 = .ok (.i2l, 1) := by decide +kernel
theorem dX4_missed_19 : decode cX4_missed 19 = .ok (.lsub, 1) := by decide +kernel
theorem dX4_missed_20 : decode cX4_missed 20 = .ok (.lreturn, 1) := by decide +kernel
set_option maxRecDepth 20000 in
theorem ggX4_minutesToWeaken_X4_minutesToAge : GoodIn wsX4_minutesToWeaken wsX4_minutesToAge := goodIn_r _ [6, 7, 8, 9, 10, 11, 12, 13, 14, 15, 16, 17, 18, 19, 20, 21, 22, 23, 24] (by decide +kernel) (by decide +kernel)
set_option maxRecDepth 20000 in
theorem gX4_minutesToWeaken_X4_minutesToAge : GoodIn wsX4_minutesToWeaken (wsV RX4 63 RX4 yX4_minutesToAge wsX4_minutesToAge) := goodIn_app (goodIn_of _ (by decide +kernel)) ggX4_minutesToWeaken_X4_minutesToAge
theorem dX4_minutesToWeaken_0 : decode cX4_minutesToWeaken 0 = .ok (.aload_n 0, 1) := by decide +kernel
theorem dX4_minutesToWeaken_1 : decode cX4_minutesToWeaken 1 = .ok (.getfield 22, 3) := by decide +kernel
theorem dX4_minutesToWeaken_4 : decode cX4_minutesToWeaken 4 = .ok (.sipush 160, 3) := by decide +kernel
theorem dX4_minutesToWeaken_7 : decode cX4_minutesToWeaken 7 = .ok (.if_icmp .lt 8, 3) := by decide +kernel
theorem dX4_minutesToWeaken_10 : decode cX4_minutesToWeaken 10 = .ok (.bipush (-6), 2) := by decide +kernel
theorem dX4_minutesToWeaken_12 : decode cX4_minutesToWeaken 12 = .ok (.goto 8, 3) := by decide +kernel
theorem dX4_minutesToWeaken_15 : decode cX4_minutesToWeaken 15 = .ok (.aload_n 0, 1) := by decide +kernel
theorem dX4_minutesToWeaken_16 : decode cX4_minutesToWeaken 16 = .ok (.iload_n 1, 1) := by decide +kernel
theorem dX4_minutesToWeaken_17 : decode cX4_minutesToWeaken 17 = .ok (.invokevirtual 63, 3) := by decide +kernel
theorem dX4_minutesToWeaken_20 : decode cX4_minutesToWeaken 20 = .ok (.ireturn, 1) := by decide +kernel
theorem dX4_minutesToAge_0 : decode cX4_minutesToAge 0 = .ok (.iconst 1, 1) := by decide +kernel
theorem dX4_minutesToAge_1 : decode cX4_minutesToAge 1 = .ok (.iload_n 1, 1) := by decide +kernel
theorem dX4_minutesToAge_2 : decode cX4_minutesToAge 2 = .ok (.aload_n 0, 1) := by decide +kernel
theorem dX4_minutesToAge_3 : decode cX4_minutesToAge 3 = .ok (.getfield 25, 3) := by decide +kernel
theorem dX4_minutesToAge_6 : decode cX4_minutesToAge 6 = .ok (.isub, 1) := by decide +kernel
theorem dX4_minutesToAge_7 : decode cX4_minutesToAge 7 = .ok (.invokestatic 67, 3) := by decide +kernel
theorem dX4_minutesToAge_10 : decode cX4_minutesToAge 10 = .ok (.ireturn, 1) := by decide +kernel
set_option maxRecDepth 20000 in
theorem ggX4_run_X4_wayIn : GoodIn wsX4_run wsX4_wayIn := goodIn_r _ [15, 6, 16, 2, 7, 8, 9, 10, 17, 18, 19, 20, 21, 22, 23, 24, 25, 26, 27, 28, 29] (by decide +kernel) (by decide +kernel)
set_option maxRecDepth 20000 in
theorem gX4_run_X4_wayIn : GoodIn wsX4_run (wsV RX4 73 RX4 yX4_wayIn wsX4_wayIn) := goodIn_app (goodIn_of _ (by decide +kernel)) ggX4_run_X4_wayIn
theorem dX4_run_0 : decode cX4_run 0 = .ok (.aload_n 0, 1) := by decide +kernel
theorem dX4_run_1 : decode cX4_run 1 = .ok (.dup, 1) := by decide +kernel
theorem dX4_run_2 : decode cX4_run 2 = .ok (.getfield 40, 3) := by decide +kernel
theorem dX4_run_5 : decode cX4_run 5 = .ok (.iload_n 2, 1) := by decide +kernel
theorem dX4_run_6 : decode cX4_run 6 = .ok (.i2l, 1) := by decide +kernel
theorem dX4_run_7 : decode cX4_run 7 = .ok (.iload_n 1, 1) := by decide +kernel
theorem dX4_run_8 : decode cX4_run 8 = .ok (.i2l, 1) := by decide +kernel
theorem dX4_run_9 : decode cX4_run 9 = .ok (.lmul, 1) := by decide +kernel
theorem dX4_run_10 : decode cX4_run 10 = .ok (.ladd, 1) := by decide +kernel
theorem dX4_run_11 : decode cX4_run 11 = .ok (.putfield 40, 3) := by decide +kernel
theorem dX4_run_14 : decode cX4_run 14 = .ok (.aload_n 0, 1) := by decide +kernel
theorem dX4_run_15 : decode cX4_run 15 = .ok (.dup, 1) := by decide +kernel
theorem dX4_run_16 : decode cX4_run 16 = .ok (.getfield 19, 3) := by decide +kernel
theorem dX4_run_19 : decode cX4_run 19 = .ok (.aload_n 0, 1) := by decide +kernel
theorem dX4_run_20 : decode cX4_run 20 = .ok (.iload_n 1, 1) := by decide +kernel
theorem dX4_run_21 : decode cX4_run 21 = .ok (.iload_n 2, 1) := by decide +kernel
theorem dX4_run_22 : decode cX4_run 22 = .ok (.aload_n 3, 1) := by decide +kernel
theorem dX4_run_23 : decode cX4_run 23 = .ok (.invokevirtual 73, 3) := by decide +kernel
theorem dX4_run_26 : decode cX4_run 26 = .ok (.iadd, 1) := by decide +kernel
theorem dX4_run_27 : decode cX4_run 27 = .ok (.putfield 19, 3) := by decide +kernel
theorem dX4_run_30 : decode cX4_run 30 = .ok (.aload_n 0, 1) := by decide +kernel
theorem dX4_run_31 : decode cX4_run 31 = .ok (.getfield 19, 3) := by decide +kernel
theorem dX4_run_34 : decode cX4_run 34 = .ok (.sipush 6000, 3) := by decide +kernel
theorem dX4_run_37 : decode cX4_run 37 = .ok (.idiv, 1) := by decide +kernel
theorem dX4_run_38 : decode cX4_run 38 = .ok (.istore 5, 2) := by decide +kernel
theorem dX4_run_40 : decode cX4_run 40 = .ok (.aload_n 0, 1) := by decide +kernel
theorem dX4_run_41 : decode cX4_run 41 = .ok (.dup, 1) := by decide +kernel
theorem dX4_run_42 : decode cX4_run 42 = .ok (.getfield 19, 3) := by decide +kernel
theorem dX4_run_45 : decode cX4_run 45 = .ok (.iload 5, 2) := by decide +kernel
theorem dX4_run_47 : decode cX4_run 47 = .ok (.sipush 6000, 3) := by decide +kernel
theorem dX4_run_50 : decode cX4_run 50 = .ok (.imul, 1) := by decide +kernel
theorem dX4_run_51 : decode cX4_run 51 = .ok (.isub, 1) := by decide +kernel
theorem dX4_run_52 : decode cX4_run 52 = .ok (.putfield 19, 3) := by decide +kernel
theorem dX4_run_55 : decode cX4_run 55 = .ok (.iload 4, 2) := by decide +kernel
theorem dX4_run_57 : decode cX4_run 57 = .ok (.ifCond .eq 17, 3) := by decide +kernel
theorem dX4_run_60 : decode cX4_run 60 = .ok (.aload_n 0, 1) := by decide +kernel
theorem dX4_run_61 : decode cX4_run 61 = .ok (.dup, 1) := by decide +kernel
theorem dX4_run_62 : decode cX4_run 62 = .ok (.getfield 31, 3) := by decide +kernel
theorem dX4_run_65 : decode cX4_run 65 = .ok (.iload 5, 2) := by decide +kernel
theorem dX4_run_67 : decode cX4_run 67 = .ok (.iadd, 1) := by decide +kernel
theorem dX4_run_68 : decode cX4_run 68 = .ok (.putfield 31, 3) := by decide +kernel
theorem dX4_run_71 : decode cX4_run 71 = .ok (.goto 14, 3) := by decide +kernel
theorem dX4_run_74 : decode cX4_run 74 = .ok (.aload_n 0, 1) := by decide +kernel
theorem dX4_run_75 : decode cX4_run 75 = .ok (.dup, 1) := by decide +kernel
theorem dX4_run_76 : decode cX4_run 76 = .ok (.getfield 28, 3) := by decide +kernel
theorem dX4_run_79 : decode cX4_run 79 = .ok (.iload 5, 2) := by decide +kernel
theorem dX4_run_81 : decode cX4_run 81 = .ok (.iadd, 1) := by decide +kernel
theorem dX4_run_82 : decode cX4_run 82 = .ok (.putfield 28, 3) := by decide +kernel
theorem dX4_run_85 : decode cX4_run 85 = .ok (.aload_n 0, 1) := by decide +kernel
theorem dX4_run_86 : decode cX4_run 86 = .ok (.dup, 1) := by decide +kernel
theorem dX4_run_87 : decode cX4_run 87 = .ok (.getfield 25, 3) := by decide +kernel
theorem dX4_run_90 : decode cX4_run 90 = .ok (.iload_n 1, 1) := by decide +kernel
theorem dX4_run_91 : decode cX4_run 91 = .ok (.iadd, 1) := by decide +kernel
theorem dX4_run_92 : decode cX4_run 92 = .ok (.putfield 25, 3) := by decide +kernel
theorem dX4_run_95 : decode cX4_run 95 = .ok (.aload_n 0, 1) := by decide +kernel
theorem dX4_run_96 : decode cX4_run 96 = .ok (.getfield 25, 3) := by decide +kernel
theorem dX4_run_99 : decode cX4_run 99 = .ok (.aload_n 3, 1) := by decide +kernel
theorem dX4_run_100 : decode cX4_run 100 = .ok (.iconst 3, 1) := by decide +kernel
theorem dX4_run_101 : decode cX4_run 101 = .ok (.iaload, 1) := by decide +kernel
theorem dX4_run_102 : decode cX4_run 102 = .ok (.if_icmp .lt 24, 3) := by decide +kernel
theorem dX4_run_105 : decode cX4_run 105 = .ok (.aload_n 0, 1) := by decide +kernel
theorem dX4_run_106 : decode cX4_run 106 = .ok (.iconst 0, 1) := by decide +kernel
theorem dX4_run_107 : decode cX4_run 107 = .ok (.putfield 25, 3) := by decide +kernel
theorem dX4_run_110 : decode cX4_run 110 = .ok (.aload_n 0, 1) := by decide +kernel
theorem dX4_run_111 : decode cX4_run 111 = .ok (.sipush 160, 3) := by decide +kernel
theorem dX4_run_114 : decode cX4_run 114 = .ok (.aload_n 0, 1) := by decide +kernel
theorem dX4_run_115 : decode cX4_run 115 = .ok (.getfield 22, 3) := by decide +kernel
theorem dX4_run_118 : decode cX4_run 118 = .ok (.iconst 1, 1) := by decide +kernel
theorem dX4_run_119 : decode cX4_run 119 = .ok (.iadd, 1) := by decide +kernel
theorem dX4_run_120 : decode cX4_run 120 = .ok (.invokestatic 77, 3) := by decide +kernel
theorem dX4_run_123 : decode cX4_run 123 = .ok (.putfield 22, 3) := by decide +kernel
theorem dX4_run_126 : decode cX4_run 126 = .ok (.iload 5, 2) := by decide +kernel
theorem dX4_run_128 : decode cX4_run 128 = .ok (.ireturn, 1) := by decide +kernel
theorem dX4_wayIn_0 : decode cX4_wayIn 0 = .ok (.iload_n 2, 1) := by decide +kernel
theorem dX4_wayIn_1 : decode cX4_wayIn 1 = .ok (.aload_n 3, 1) := by decide +kernel
theorem dX4_wayIn_2 : decode cX4_wayIn 2 = .ok (.iconst 0, 1) := by decide +kernel
theorem dX4_wayIn_3 : decode cX4_wayIn 3 = .ok (.iaload, 1) := by decide +kernel
theorem dX4_wayIn_4 : decode cX4_wayIn 4 = .ok (.if_icmp .le 33, 3) := by decide +kernel
theorem dX4_wayIn_7 : decode cX4_wayIn 7 = .ok (.iload_n 2, 1) := by decide +kernel
theorem dX4_wayIn_8 : decode cX4_wayIn 8 = .ok (.aload_n 0, 1) := by decide +kernel
theorem dX4_wayIn_9 : decode cX4_wayIn 9 = .ok (.getfield 22, 3) := by decide +kernel
theorem dX4_wayIn_12 : decode cX4_wayIn 12 = .ok (.imul, 1) := by decide +kernel
theorem dX4_wayIn_13 : decode cX4_wayIn 13 = .ok (.bipush 100, 2) := by decide +kernel
theorem dX4_wayIn_15 : decode cX4_wayIn 15 = .ok (.idiv, 1) := by decide +kernel
theorem dX4_wayIn_16 : decode cX4_wayIn 16 = .ok (.istore 4, 2) := by decide +kernel
theorem dX4_wayIn_18 : decode cX4_wayIn 18 = .ok (.iload_n 1, 1) := by decide +kernel
theorem dX4_wayIn_19 : decode cX4_wayIn 19 = .ok (.aload_n 0, 1) := by decide +kernel
theorem dX4_wayIn_20 : decode cX4_wayIn 20 = .ok (.getfield 47, 3) := by decide +kernel
theorem dX4_wayIn_23 : decode cX4_wayIn 23 = .ok (.ifCond .eq 10, 3) := by decide +kernel
theorem dX4_wayIn_26 : decode cX4_wayIn 26 = .ok (.iload 4, 2) := by decide +kernel
theorem dX4_wayIn_28 : decode cX4_wayIn 28 = .ok (.iconst 2, 1) := by decide +kernel
theorem dX4_wayIn_29 : decode cX4_wayIn 29 = .ok (.idiv, 1) := by decide +kernel
theorem dX4_wayIn_30 : decode cX4_wayIn 30 = .ok (.goto 5, 3) := by decide +kernel
theorem dX4_wayIn_33 : decode cX4_wayIn 33 = .ok (.iload 4, 2) := by decide +kernel
theorem dX4_wayIn_35 : decode cX4_wayIn 35 = .ok (.imul, 1) := by decide +kernel
theorem dX4_wayIn_36 : decode cX4_wayIn 36 = .ok (.ireturn, 1) := by decide +kernel
theorem dX4_wayIn_37 : decode cX4_wayIn 37 = .ok (.iload_n 2, 1) := by decide +kernel
theorem dX4_wayIn_38 : decode cX4_wayIn 38 = .ok (.ifCond .gt 10, 3) := by decide +kernel
theorem dX4_wayIn_41 : decode cX4_wayIn 41 = .ok (.aload_n 0, 1) := by decide +kernel
theorem dX4_wayIn_42 : decode cX4_wayIn 42 = .ok (.getfield 47, 3) := by decide +kernel
theorem dX4_wayIn_45 : decode cX4_wayIn 45 = .ok (.ifCond .eq 5, 3) := by decide +kernel
theorem dX4_wayIn_48 : decode cX4_wayIn 48 = .ok (.iconst 0, 1) := by decide +kernel
theorem dX4_wayIn_49 : decode cX4_wayIn 49 = .ok (.ireturn, 1) := by decide +kernel
theorem dX4_wayIn_50 : decode cX4_wayIn 50 = .ok (.iload_n 1, 1) := by decide +kernel
theorem dX4_wayIn_51 : decode cX4_wayIn 51 = .ok (.aload_n 3, 1) := by decide +kernel
theorem dX4_wayIn_52 : decode cX4_wayIn 52 = .ok (.iconst 1, 1) := by decide +kernel
theorem dX4_wayIn_53 : decode cX4_wayIn 53 = .ok (.iaload, 1) := by decide +kernel
theorem dX4_wayIn_54 : decode cX4_wayIn 54 = .ok (.imul, 1) := by decide +kernel
theorem dX4_wayIn_55 : decode cX4_wayIn 55 = .ok (.istore 4, 2) := by decide +kernel
theorem dX4_wayIn_57 : decode cX4_wayIn 57 = .ok (.aload_n 3, 1) := by decide +kernel
theorem dX4_wayIn_58 : decode cX4_wayIn 58 = .ok (.iconst 2, 1) := by decide +kernel
theorem dX4_wayIn_59 : decode cX4_wayIn 59 = .ok (.iaload, 1) := by decide +kernel
theorem dX4_wayIn_60 : decode cX4_wayIn 60 = .ok (.ifCond .ne 6, 3) := by decide +kernel
theorem dX4_wayIn_63 : decode cX4_wayIn 63 = .ok (.iload 4, 2) := by decide +kernel
theorem dX4_wayIn_65 : decode cX4_wayIn 65 = .ok (.ireturn, 1) := by decide +kernel
theorem dX4_wayIn_66 : decode cX4_wayIn 66 = .ok (.aload_n 0, 1) := by decide +kernel
theorem dX4_wayIn_67 : decode cX4_wayIn 67 = .ok (.getfield 19, 3) := by decide +kernel
theorem dX4_wayIn_70 : decode cX4_wayIn 70 = .ok (.ifCond .ne 7, 3) := by decide +kernel
theorem dX4_wayIn_73 : decode cX4_wayIn 73 = .ok (.iconst 0, 1) := by decide +kernel
theorem dX4_wayIn_74 : decode cX4_wayIn 74 = .ok (.goto 16, 3) := by decide +kernel
theorem dX4_wayIn_77 : decode cX4_wayIn 77 = .ok (.iload 4, 2) := by decide +kernel
theorem dX4_wayIn_79 : decode cX4_wayIn 79 = .ok (.sipush 6000, 3) := by decide +kernel
theorem dX4_wayIn_82 : decode cX4_wayIn 82 = .ok (.aload_n 0, 1) := by decide +kernel
theorem dX4_wayIn_83 : decode cX4_wayIn 83 = .ok (.getfield 19, 3) := by decide +kernel
theorem dX4_wayIn_86 : decode cX4_wayIn 86 = .ok (.isub, 1) := by decide +kernel
theorem dX4_wayIn_87 : decode cX4_wayIn 87 = .ok (.invokestatic 77, 3) := by decide +kernel
theorem dX4_wayIn_90 : decode cX4_wayIn 90 = .ok (.ireturn, 1) := by decide +kernel
theorem dX4_settleBill_0 : decode cX4_settleBill 0 = .ok (.aload_n 0, 1) := by decide +kernel
theorem dX4_settleBill_1 : decode cX4_settleBill 1 = .ok (.dup, 1) := by decide +kernel
theorem dX4_settleBill_2 : decode cX4_settleBill 2 = .ok (.getfield 51, 3) := by decide +kernel
theorem dX4_settleBill_5 : decode cX4_settleBill 5 = .ok (.iload_n 1, 1) := by decide +kernel
theorem dX4_settleBill_6 : decode cX4_settleBill 6 = .ok (.iadd, 1) := by decide +kernel
theorem dX4_settleBill_7 : decode cX4_settleBill 7 = .ok (.putfield 51, 3) := by decide +kernel
theorem dX4_settleBill_10 : decode cX4_settleBill 10 = .ok (.aload_n 0, 1) := by decide +kernel
theorem dX4_settleBill_11 : decode cX4_settleBill 11 = .ok (.aload_n 0, 1) := by decide +kernel
theorem dX4_settleBill_12 : decode cX4_settleBill 12 = .ok (.getfield 28, 3) := by decide +kernel
theorem dX4_settleBill_15 : decode cX4_settleBill 15 = .ok (.putfield 34, 3) := by decide +kernel
theorem dX4_settleBill_18 : decode cX4_settleBill 18 = .ok (.aload_n 0, 1) := by decide +kernel
theorem dX4_settleBill_19 : decode cX4_settleBill 19 = .ok (.aload_n 0, 1) := by decide +kernel
theorem dX4_settleBill_20 : decode cX4_settleBill 20 = .ok (.getfield 31, 3) := by decide +kernel
theorem dX4_settleBill_23 : decode cX4_settleBill 23 = .ok (.putfield 37, 3) := by decide +kernel
theorem dX4_settleBill_26 : decode cX4_settleBill 26 = .ok (.aload_n 0, 1) := by decide +kernel
theorem dX4_settleBill_27 : decode cX4_settleBill 27 = .ok (.dup, 1) := by decide +kernel
theorem dX4_settleBill_28 : decode cX4_settleBill 28 = .ok (.getfield 54, 3) := by decide +kernel
theorem dX4_settleBill_31 : decode cX4_settleBill 31 = .ok (.iconst 1, 1) := by decide +kernel
theorem dX4_settleBill_32 : decode cX4_settleBill 32 = .ok (.iadd, 1) := by decide +kernel
theorem dX4_settleBill_33 : decode cX4_settleBill 33 = .ok (.putfield 54, 3) := by decide +kernel
theorem dX4_settleBill_36 : decode cX4_settleBill 36 = .ok (.aload_n 0, 1) := by decide +kernel
theorem dX4_settleBill_37 : decode cX4_settleBill 37 = .ok (.bipush 100, 2) := by decide +kernel
theorem dX4_settleBill_39 : decode cX4_settleBill 39 = .ok (.putfield 22, 3) := by decide +kernel
theorem dX4_settleBill_42 : decode cX4_settleBill 42 = .ok (.aload_n 0, 1) := by decide +kernel
theorem dX4_settleBill_43 : decode cX4_settleBill 43 = .ok (.iconst 0, 1) := by decide +kernel
theorem dX4_settleBill_44 : decode cX4_settleBill 44 = .ok (.putfield 25, 3) := by decide +kernel
theorem dX4_settleBill_47 : decode cX4_settleBill 47 = .ok (.return_, 1) := by decide +kernel
theorem dX4_mend_0 : decode cX4_mend 0 = .ok (.aload_n 0, 1) := by decide +kernel
theorem dX4_mend_1 : decode cX4_mend 1 = .ok (.iconst 0, 1) := by decide +kernel
theorem dX4_mend_2 : decode cX4_mend 2 = .ok (.putfield 47, 3) := by decide +kernel
theorem dX4_mend_5 : decode cX4_mend 5 = .ok (.aload_n 0, 1) := by decide +kernel
theorem dX4_mend_6 : decode cX4_mend 6 = .ok (.iload_n 1, 1) := by decide +kernel
theorem dX4_mend_7 : decode cX4_mend 7 = .ok (.putfield 44, 3) := by decide +kernel
theorem dX4_mend_10 : decode cX4_mend 10 = .ok (.return_, 1) := by decide +kernel
theorem dX5_init_0 : decode cX5_init 0 = .ok (.aload_n 0, 1) := by decide +kernel
theorem dX5_init_1 : decode cX5_init 1 = .ok (.invokespecial 3, 3) := by decide +kernel
theorem dX5_init_4 : decode cX5_init 4 = .ok (.aload_n 0, 1) := by decide +kernel
theorem dX5_init_5 : decode cX5_init 5 = .ok (.bipush 80, 2) := by decide +kernel
theorem dX5_init_7 : decode cX5_init 7 = .ok (.newarray .char, 2) := by decide +kernel
theorem dX5_init_9 : decode cX5_init 9 = .ok (.putfield 9, 3) := by decide +kernel
theorem dX5_init_12 : decode cX5_init 12 = .ok (.aload_n 0, 1) := by decide +kernel
theorem dX5_init_13 : decode cX5_init 13 = .ok (.iconst 0, 1) := by decide +kernel
theorem dX5_init_14 : decode cX5_init 14 = .ok (.putfield 15, 3) := by decide +kernel
theorem dX5_init_17 : decode cX5_init 17 = .ok (.return_, 1) := by decide +kernel
theorem dX5_clear_0 : decode cX5_clear 0 = .ok (.aload_n 0, 1) := by decide +kernel
theorem dX5_clear_1 : decode cX5_clear 1 = .ok (.iconst 0, 1) := by decide +kernel
theorem dX5_clear_2 : decode cX5_clear 2 = .ok (.putfield 15, 3) := by decide +kernel
theorem dX5_clear_5 : decode cX5_clear 5 = .ok (.return_, 1) := by decide +kernel
theorem dX5_signAt_0 : decode cX5_signAt 0 = .ok (.iload_n 1, 1) := by decide +kernel
theorem dX5_signAt_1 : decode cX5_signAt 1 = .ok (.ifCond .lt 20, 3) := by decide +kernel
theorem dX5_signAt_4 : decode cX5_signAt 4 = .ok (.iload_n 1, 1) := by decide +kernel
theorem dX5_signAt_5 : decode cX5_signAt 5 = .ok (.aload_n 0, 1) := by decide +kernel
theorem dX5_signAt_6 : decode cX5_signAt 6 = .ok (.getfield 15, 3) := by decide +kernel
theorem dX5_signAt_9 : decode cX5_signAt 9 = .ok (.if_icmp .ge 12, 3) := by decide +kernel
theorem dX5_signAt_12 : decode cX5_signAt 12 = .ok (.aload_n 0, 1) := by decide +kernel
theorem dX5_signAt_13 : decode cX5_signAt 13 = .ok (.getfield 9, 3) := by decide +kernel
theorem dX5_signAt_16 : decode cX5_signAt 16 = .ok (.iload_n 1, 1) := by decide +kernel
theorem dX5_signAt_17 : decode cX5_signAt 17 = .ok (.caload, 1) := by decide +kernel
theorem dX5_signAt_18 : decode cX5_signAt 18 = .ok (.goto 4, 3) := by decide +kernel
theorem dX5_signAt_21 : decode cX5_signAt 21 = .ok (.iconst (-1), 1) := by decide +kernel
theorem dX5_signAt_22 : decode cX5_signAt 22 = .ok (.ireturn, 1) := by decide +kernel
theorem dX5_append_0 : decode cX5_append 0 = .ok (.aload_n 0, 1) := by decide +kernel
theorem dX5_append_1 : decode cX5_append 1 = .ok (.getfield 15, 3) := by decide +kernel
theorem dX5_append_4 : decode cX5_append 4 = .ok (.bipush 80, 2) := by decide +kernel
theorem dX5_append_6 : decode cX5_append 6 = .ok (.if_icmp .ge 23, 3) := by decide +kernel
theorem dX5_append_9 : decode cX5_append 9 = .ok (.aload_n 0, 1) := by decide +kernel
theorem dX5_append_10 : decode cX5_append 10 = .ok (.getfield 9, 3) := by decide +kernel
theorem dX5_append_13 : decode cX5_append 13 = .ok (.aload_n 0, 1) := by decide +kernel
theorem dX5_append_14 : decode cX5_append 14 = .ok (.getfield 15, 3) := by decide +kernel
theorem dX5_append_17 : decode cX5_append 17 = .ok (.iload_n 1, 1) := by decide +kernel
theorem dX5_append_18 : decode cX5_append 18 = .ok (.castore, 1) := by decide +kernel
theorem dX5_append_19 : decode cX5_append 19 = .ok (.aload_n 0, 1) := by decide +kernel
theorem dX5_append_20 : decode cX5_append 20 = .ok (.dup, 1) := by decide +kernel
theorem dX5_append_21 : decode cX5_append 21 = .ok (.getfield 15, 3) := by decide +kernel
theorem dX5_append_24 : decode cX5_append 24 = .ok (.iconst 1, 1) := by decide +kernel
theorem dX5_append_25 : decode cX5_append 25 = .ok (.iadd, 1) := by decide +kernel
theorem dX5_append_26 : decode cX5_append 26 = .ok (.putfield 15, 3) := by decide +kernel
theorem dX5_append_29 : decode cX5_append 29 = .ok (.return_, 1) := by decide +kernel
theorem dX5_appendNumber_0 : decode cX5_appendNumber 0 = .ok (.iconst 1, 1) := by decide +kernel
theorem dX5_appendNumber_1 : decode cX5_appendNumber 1 = .ok (.istore_n 2, 1) := by decide +kernel
theorem dX5_appendNumber_2 : decode cX5_appendNumber 2 = .ok (.iload_n 1, 1) := by decide +kernel
theorem dX5_appendNumber_3 : decode cX5_appendNumber 3 = .ok (.bipush 10, 2) := by decide +kernel
theorem dX5_appendNumber_5 : decode cX5_appendNumber 5 = .ok (.idiv, 1) := by decide +kernel
theorem dX5_appendNumber_6 : decode cX5_appendNumber 6 = .ok (.istore_n 3, 1) := by decide +kernel
theorem dX5_appendNumber_7 : decode cX5_appendNumber 7 = .ok (.iload_n 3, 1) := by decide +kernel
theorem dX5_appendNumber_8 : decode cX5_appendNumber 8 = .ok (.ifCond .le 14, 3) := by decide +kernel
theorem dX5_appendNumber_11 : decode cX5_appendNumber 11 = .ok (.iinc 2 1, 3) := by decide +kernel
theorem dX5_appendNumber_14 : decode cX5_appendNumber 14 = .ok (.iload_n 3, 1) := by decide +kernel
theorem dX5_appendNumber_15 : decode cX5_appendNumber 15 = .ok (.bipush 10, 2) := by decide +kernel
theorem dX5_appendNumber_17 : decode cX5_appendNumber 17 = .ok (.idiv, 1) := by decide +kernel
theorem dX5_appendNumber_18 : decode cX5_appendNumber 18 = .ok (.istore_n 3, 1) := by decide +kernel
theorem dX5_appendNumber_19 : decode cX5_appendNumber 19 = .ok (.goto (-12), 3) := by decide +kernel
theorem dX5_appendNumber_22 : decode cX5_appendNumber 22 = .ok (.aload_n 0, 1) := by decide +kernel
theorem dX5_appendNumber_23 : decode cX5_appendNumber 23 = .ok (.getfield 15, 3) := by decide +kernel
theorem dX5_appendNumber_26 : decode cX5_appendNumber 26 = .ok (.iload_n 2, 1) := by decide +kernel
theorem dX5_appendNumber_27 : decode cX5_appendNumber 27 = .ok (.iadd, 1) := by decide +kernel
theorem dX5_appendNumber_28 : decode cX5_appendNumber 28 = .ok (.bipush 80, 2) := by decide +kernel
theorem dX5_appendNumber_30 : decode cX5_appendNumber 30 = .ok (.if_icmp .le 4, 3) := by decide +kernel
theorem dX5_appendNumber_33 : decode cX5_appendNumber 33 = .ok (.return_, 1) := by decide +kernel
theorem dX5_appendNumber_34 : decode cX5_appendNumber 34 = .ok (.iload_n 1, 1) := by decide +kernel
theorem dX5_appendNumber_35 : decode cX5_appendNumber 35 = .ok (.istore_n 3, 1) := by decide +kernel
theorem dX5_appendNumber_36 : decode cX5_appendNumber 36 = .ok (.aload_n 0, 1) := by decide +kernel
theorem dX5_appendNumber_37 : decode cX5_appendNumber 37 = .ok (.getfield 15, 3) := by decide +kernel
theorem dX5_appendNumber_40 : decode cX5_appendNumber 40 = .ok (.iload_n 2, 1) := by decide +kernel
theorem dX5_appendNumber_41 : decode cX5_appendNumber 41 = .ok (.iadd, 1) := by decide +kernel
theorem dX5_appendNumber_42 : decode cX5_appendNumber 42 = .ok (.iconst 1, 1) := by decide +kernel
theorem dX5_appendNumber_43 : decode cX5_appendNumber 43 = .ok (.isub, 1) := by decide +kernel
theorem dX5_appendNumber_44 : decode cX5_appendNumber 44 = .ok (.istore 4, 2) := by decide +kernel
theorem dX5_appendNumber_46 : decode cX5_appendNumber 46 = .ok (.iload 4, 2) := by decide +kernel
theorem dX5_appendNumber_48 : decode cX5_appendNumber 48 = .ok (.aload_n 0, 1) := by decide +kernel
theorem dX5_appendNumber_49 : decode cX5_appendNumber 49 = .ok (.getfield 15, 3) := by decide +kernel
theorem dX5_appendNumber_52 : decode cX5_appendNumber 52 = .ok (.if_icmp .lt 29, 3) := by decide +kernel
theorem dX5_appendNumber_55 : decode cX5_appendNumber 55 = .ok (.aload_n 0, 1) := by decide +kernel
theorem dX5_appendNumber_56 : decode cX5_appendNumber 56 = .ok (.getfield 9, 3) := by decide +kernel
theorem dX5_appendNumber_59 : decode cX5_appendNumber 59 = .ok (.iload 4, 2) := by decide +kernel
theorem dX5_appendNumber_61 : decode cX5_appendNumber 61 = .ok (.bipush 48, 2) := by decide +kernel
theorem dX5_appendNumber_63 : decode cX5_appendNumber 63 = .ok (.iload_n 3, 1) := by decide +kernel
theorem dX5_appendNumber_64 : decode cX5_appendNumber 64 = .ok (.bipush 10, 2) := by decide +kernel
theorem dX5_appendNumber_66 : decode cX5_appendNumber 66 = .ok (.irem, 1) := by decide +kernel
theorem dX5_appendNumber_67 : decode cX5_appendNumber 67 = .ok (.iadd, 1) := by decide +kernel
theorem dX5_appendNumber_68 : decode cX5_appendNumber 68 = .ok (.i2c, 1) := by decide +kernel
theorem dX5_appendNumber_69 : decode cX5_appendNumber 69 = .ok (.castore, 1) := by decide +kernel
theorem dX5_appendNumber_70 : decode cX5_appendNumber 70 = .ok (.iload_n 3, 1) := by decide +kernel
theorem dX5_appendNumber_71 : decode cX5_appendNumber 71 = .ok (.bipush 10, 2) := by decide +kernel
theorem dX5_appendNumber_73 : decode cX5_appendNumber 73 = .ok (.idiv, 1) := by decide +kernel
theorem dX5_appendNumber_74 : decode cX5_appendNumber 74 = .ok (.istore_n 3, 1) := by decide +kernel
theorem dX5_appendNumber_75 : decode cX5_appendNumber 75 = .ok (.iinc 4 (-1), 3) := by decide +kernel
theorem dX5_appendNumber_78 : decode cX5_appendNumber 78 = .ok (.goto (-32), 3) := by decide +kernel
theorem dX5_appendNumber_81 : decode cX5_appendNumber 81 = .ok (.aload_n 0, 1) := by decide +kernel
theorem dX5_appendNumber_82 : decode cX5_appendNumber 82 = .ok (.dup, 1) := by decide +kernel
theorem dX5_appendNumber_83 : decode cX5_appendNumber 83 = .ok (.getfield 15, 3) := by decide +kernel
theorem dX5_appendNumber_86 : decode cX5_appendNumber 86 = .ok (.iload_n 2, 1) := by decide +kernel
theorem dX5_appendNumber_87 : decode cX5_appendNumber 87 = .ok (.iadd, 1) := by decide +kernel
theorem dX5_appendNumber_88 : decode cX5_appendNumber 88 = .ok (.putfield 15, 3) := by decide +kernel
theorem dX5_appendNumber_91 : decode cX5_appendNumber 91 = .ok (.return_, 1) := by decide +kernel
set_option maxRecDepth 20000 in
theorem ggX5_numberIn_X5_signAt : GoodIn wsX5_numberIn wsX5_signAt := goodIn_r _ [5, 6, 7, 8, 9] (by decide +kernel) (by decide +kernel)
set_option maxRecDepth 20000 in
theorem gX5_numberIn_X5_signAt : GoodIn wsX5_numberIn (wsV RX5 19 RX5 yX5_signAt wsX5_signAt) := goodIn_app (goodIn_of _ (by decide +kernel)) ggX5_numberIn_X5_signAt
theorem dX5_numberIn_0 : decode cX5_numberIn 0 = .ok (.iconst 0, 1) := by decide +kernel
theorem dX5_numberIn_1 : decode cX5_numberIn 1 = .ok (.istore_n 3, 1) := by decide +kernel
theorem dX5_numberIn_2 : decode cX5_numberIn 2 = .ok (.iload_n 1, 1) := by decide +kernel
theorem dX5_numberIn_3 : decode cX5_numberIn 3 = .ok (.istore 4, 2) := by decide +kernel
theorem dX5_numberIn_5 : decode cX5_numberIn 5 = .ok (.iload 4, 2) := by decide +kernel
theorem dX5_numberIn_7 : decode cX5_numberIn 7 = .ok (.iload_n 2, 1) := by decide +kernel
theorem dX5_numberIn_8 : decode cX5_numberIn 8 = .ok (.if_icmp .ge 24, 3) := by decide +kernel
theorem dX5_numberIn_11 : decode cX5_numberIn 11 = .ok (.iload_n 3, 1) := by decide +kernel
theorem dX5_numberIn_12 : decode cX5_numberIn 12 = .ok (.bipush 10, 2) := by decide +kernel
theorem dX5_numberIn_14 : decode cX5_numberIn 14 = .ok (.imul, 1) := by decide +kernel
theorem dX5_numberIn_15 : decode cX5_numberIn 15 = .ok (.aload_n 0, 1) := by decide +kernel
theorem dX5_numberIn_16 : decode cX5_numberIn 16 = .ok (.iload 4, 2) := by decide +kernel
theorem dX5_numberIn_18 : decode cX5_numberIn 18 = .ok (.invokevirtual 19, 3) := by decide +kernel
theorem dX5_numberIn_21 : decode cX5_numberIn 21 = .ok (.iadd, 1) := by decide +kernel
theorem dX5_numberIn_22 : decode cX5_numberIn 22 = .ok (.bipush 48, 2) := by decide +kernel
theorem dX5_numberIn_24 : decode cX5_numberIn 24 = .ok (.isub, 1) := by decide +kernel
theorem dX5_numberIn_25 : decode cX5_numberIn 25 = .ok (.istore_n 3, 1) := by decide +kernel
theorem dX5_numberIn_26 : decode cX5_numberIn 26 = .ok (.iinc 4 1, 3) := by decide +kernel
theorem dX5_numberIn_29 : decode cX5_numberIn 29 = .ok (.goto (-24), 3) := by decide +kernel
theorem dX5_numberIn_32 : decode cX5_numberIn 32 = .ok (.iload_n 3, 1) := by decide +kernel
theorem dX5_numberIn_33 : decode cX5_numberIn 33 = .ok (.ireturn, 1) := by decide +kernel
set_option maxRecDepth 20000 in
theorem ggX5_signsIn_X5_signOf : GoodIn wsX5_signsIn wsX5_signOf := goodIn_r _ [4, 5] (by decide +kernel) (by decide +kernel)
set_option maxRecDepth 20000 in
theorem gX5_signsIn_X5_signOf : GoodIn wsX5_signsIn (va_wsS RX5 23 yX5_signOf wsX5_signOf) := goodIn_app (goodIn_of _ (by decide +kernel)) ggX5_signsIn_X5_signOf
theorem dX5_signsIn_0 : decode cX5_signsIn 0 = .ok (.iconst 0, 1) := by decide +kernel
theorem dX5_signsIn_1 : decode cX5_signsIn 1 = .ok (.istore_n 2, 1) := by decide +kernel
theorem dX5_signsIn_2 : decode cX5_signsIn 2 = .ok (.iload_n 2, 1) := by decide +kernel
theorem dX5_signsIn_3 : decode cX5_signsIn 3 = .ok (.bipush 8, 2) := by decide +kernel
theorem dX5_signsIn_5 : decode cX5_signsIn 5 = .ok (.if_icmp .ge 37, 3) := by decide +kernel
theorem dX5_signsIn_8 : decode cX5_signsIn 8 = .ok (.lload_n 0, 1) := by decide +kernel
theorem dX5_signsIn_9 : decode cX5_signsIn 9 = .ok (.iload_n 2, 1) := by decide +kernel
theorem dX5_signsIn_10 : decode cX5_signsIn 10 = .ok (.invokestatic 23, 3) := by decide +kernel
theorem dX5_signsIn_13 : decode cX5_signsIn 13 = .ok (.ifCond .eq 29, 3) := by decide +kernel
theorem dX5_signsIn_16 : decode cX5_signsIn 16 = .ok (.lload_n 0, 1) := by decide +kernel
theorem dX5_signsIn_17 : decode cX5_signsIn 17 = .ok (.iload_n 2, 1) := by decide +kernel
theorem dX5_signsIn_18 : decode cX5_signsIn 18 = .ok (.invokestatic 23, 3) := by decide +kernel
theorem dX5_signsIn_21 : decode cX5_signsIn 21 = .ok (.istore_n 3, 1) := by decide +kernel
theorem dX5_signsIn_22 : decode cX5_signsIn 22 = .ok (.iload_n 3, 1) := by decide +kernel
theorem dX5_signsIn_23 : decode cX5_signsIn 23 = .ok (.bipush 33, 2) := by decide +kernel
theorem dX5_signsIn_25 : decode cX5_signsIn 25 = .ok (.if_icmp .lt 9, 3) := by decide +kernel
theorem dX5_signsIn_28 : decode cX5_signsIn 28 = .ok (.iload_n 3, 1) := by decide +kernel
theorem dX5_signsIn_29 : decode cX5_signsIn 29 = .ok (.bipush 126, 2) := by decide +kernel
theorem dX5_signsIn_31 : decode cX5_signsIn 31 = .ok (.if_icmp .le 5, 3) := by decide +kernel
theorem dX5_signsIn_34 : decode cX5_signsIn 34 = .ok (.iconst 0, 1) := by decide +kernel
theorem dX5_signsIn_35 : decode cX5_signsIn 35 = .ok (.ireturn, 1) := by decide +kernel
theorem dX5_signsIn_36 : decode cX5_signsIn 36 = .ok (.iinc 2 1, 3) := by decide +kernel
theorem dX5_signsIn_39 : decode cX5_signsIn 39 = .ok (.goto (-37), 3) := by decide +kernel
theorem dX5_signsIn_42 : decode cX5_signsIn 42 = .ok (.iload_n 2, 1) := by decide +kernel
theorem dX5_signsIn_43 : decode cX5_signsIn 43 = .ok (.bipush 8, 2) := by decide +kernel
theorem dX5_signsIn_45 : decode cX5_signsIn 45 = .ok (.if_icmp .eq 14, 3) := by decide +kernel
theorem dX5_signsIn_48 : decode cX5_signsIn 48 = .ok (.lload_n 0, 1) := by decide +kernel
theorem dX5_signsIn_49 : decode cX5_signsIn 49 = .ok (.bipush 8, 2) := by decide +kernel
theorem dX5_signsIn_51 : decode cX5_signsIn 51 = .ok (.iload_n 2, 1) := by decide +kernel
theorem dX5_signsIn_52 : decode cX5_signsIn 52 = .ok (.imul, 1) := by decide +kernel
theorem dX5_signsIn_53 : decode cX5_signsIn 53 = .ok (.lushr, 1) := by decide +kernel
theorem dX5_signsIn_54 : decode cX5_signsIn 54 = .ok (.lconst 0, 1) := by decide +kernel
theorem dX5_signsIn_55 : decode cX5_signsIn 55 = .ok (.lcmp, 1) := by decide +kernel
theorem dX5_signsIn_56 : decode cX5_signsIn 56 = .ok (.ifCond .ne 7, 3) := by decide +kernel
theorem dX5_signsIn_59 : decode cX5_signsIn 59 = .ok (.iconst 1, 1) := by decide +kernel
theorem dX5_signsIn_60 : decode cX5_signsIn 60 = .ok (.goto 4, 3) := by decide +kernel
theorem dX5_signsIn_63 : decode cX5_signsIn 63 = .ok (.iconst 0, 1) := by decide +kernel
theorem dX5_signsIn_64 : decode cX5_signsIn 64 = .ok (.istore_n 3, 1) := by decide +kernel
theorem dX5_signsIn_65 : decode cX5_signsIn 65 = .ok (.iload_n 3, 1) := by decide +kernel
theorem dX5_signsIn_66 : decode cX5_signsIn 66 = .ok (.ifCond .eq 7, 3) := by decide +kernel
theorem dX5_signsIn_69 : decode cX5_signsIn 69 = .ok (.iload_n 2, 1) := by decide +kernel
theorem dX5_signsIn_70 : decode cX5_signsIn 70 = .ok (.goto 4, 3) := by decide +kernel
theorem dX5_signsIn_73 : decode cX5_signsIn 73 = .ok (.iconst 0, 1) := by decide +kernel
theorem dX5_signsIn_74 : decode cX5_signsIn 74 = .ok (.ireturn, 1) := by decide +kernel
theorem dX5_signOf_0 : decode cX5_signOf 0 = .ok (.lload_n 0, 1) := by decide +kernel
theorem dX5_signOf_1 : decode cX5_signOf 1 = .ok (.bipush 8, 2) := by decide +kernel
theorem dX5_signOf_3 : decode cX5_signOf 3 = .ok (.iload_n 2, 1) := by decide +kernel
theorem dX5_signOf_4 : decode cX5_signOf 4 = .ok (.imul, 1) := by decide +kernel
theorem dX5_signOf_5 : decode cX5_signOf 5 = .ok (.lushr, 1) := by decide +kernel
theorem dX5_signOf_6 : decode cX5_signOf 6 = .ok (.ldc2_w 27, 3) := by decide +kernel
theorem dX5_signOf_9 : decode cX5_signOf 9 = .ok (.land, 1) := by decide +kernel
theorem dX5_signOf_10 : decode cX5_signOf 10 = .ok (.l2i, 1) := by decide +kernel
theorem dX5_signOf_11 : decode cX5_signOf 11 = .ok (.i2c, 1) := by decide +kernel
theorem dX5_signOf_12 : decode cX5_signOf 12 = .ok (.ireturn, 1) := by decide +kernel
theorem dJ9_max_7cf53_0 : decode cJ9_max_7cf53 0 = .ok (.iload_n 0, 1) := by decide +kernel
theorem dJ9_max_7cf53_1 : decode cJ9_max_7cf53 1 = .ok (.iload_n 1, 1) := by decide +kernel
theorem dJ9_max_7cf53_2 : decode cJ9_max_7cf53 2 = .ok (.if_icmp .lt 7, 3) := by decide +kernel
theorem dJ9_max_7cf53_5 : decode cJ9_max_7cf53 5 = .ok (.iload_n 0, 1) := by decide +kernel
theorem dJ9_max_7cf53_6 : decode cJ9_max_7cf53 6 = .ok (.goto 4, 3) := by decide +kernel
theorem dJ9_max_7cf53_9 : decode cJ9_max_7cf53 9 = .ok (.iload_n 1, 1) := by decide +kernel
theorem dJ9_max_7cf53_10 : decode cJ9_max_7cf53 10 = .ok (.ireturn, 1) := by decide +kernel
theorem dJ9_min_7cf53_0 : decode cJ9_min_7cf53 0 = .ok (.iload_n 0, 1) := by decide +kernel
theorem dJ9_min_7cf53_1 : decode cJ9_min_7cf53 1 = .ok (.iload_n 1, 1) := by decide +kernel
theorem dJ9_min_7cf53_2 : decode cJ9_min_7cf53 2 = .ok (.if_icmp .gt 7, 3) := by decide +kernel
theorem dJ9_min_7cf53_5 : decode cJ9_min_7cf53 5 = .ok (.iload_n 0, 1) := by decide +kernel
theorem dJ9_min_7cf53_6 : decode cJ9_min_7cf53 6 = .ok (.goto 4, 3) := by decide +kernel
theorem dJ9_min_7cf53_9 : decode cJ9_min_7cf53 9 = .ok (.iload_n 1, 1) := by decide +kernel
theorem dJ9_min_7cf53_10 : decode cJ9_min_7cf53 10 = .ok (.ireturn, 1) := by decide +kernel
end
section
set_option maxRecDepth 20000 in
theorem ggX6_init_X2_init : GoodIn wsX6_init wsX2_init := goodIn_r _ [25, 26, 2, 3, 27, 28, 29, 30, 31, 32, 9, 10, 33, 34, 35, 36, 37, 38, 39, 40, 41, 42, 43, 44, 45, 46, 47, 48, 49, 50, 51, 52, 53, 54, 55, 56, 57, 58, 59, 60, 61, 62, 63, 64, 65, 66, 84, 85, 86, 87, 88, 89, 90, 97, 98, 99, 100, 101, 102, 103, 104, 105, 106, 107, 108, 109, 115, 116, 117] (by decide +kernel) (by decide +kernel)
set_option maxRecDepth 20000 in
theorem gX6_init_X2_init : GoodIn wsX6_init (wsX2_init) := ggX6_init_X2_init
set_option maxRecDepth 20000 in
theorem ggX6_init_X4_init : GoodIn wsX6_init wsX4_init := goodIn_r _ [37, 38, 2, 3, 39, 40, 41, 10, 42, 43, 44, 45, 46, 47, 48, 49, 50, 51, 52, 53, 54, 55, 97, 98, 99, 100, 101, 102, 103, 104, 105, 106, 107, 108, 109] (by decide +kernel) (by decide +kernel)
set_option maxRecDepth 20000 in
theorem gX6_init_X4_init : GoodIn wsX6_init (wsX4_init) := ggX6_init_X4_init
set_option maxRecDepth 20000 in
theorem ggX6_init_X5_init : GoodIn wsX6_init wsX5_init := goodIn_r _ [70, 71, 2, 3, 72, 73, 74, 110, 111] (by decide +kernel) (by decide +kernel)
set_option maxRecDepth 20000 in
theorem gX6_init_X5_init : GoodIn wsX6_init (wsX5_init) := ggX6_init_X5_init
set_option maxRecDepth 20000 in
theorem ggX6_init_X1_init : GoodIn wsX6_init wsX1_init := goodIn_r _ [77, 78, 2, 3, 79, 80, 5, 6, 81, 82, 83, 24, 25, 26, 27, 28, 29, 30, 31, 32, 9, 10, 33, 34, 35, 36, 37, 38, 39, 40, 41, 42, 43, 44, 45, 46, 47, 48, 49, 50, 51, 52, 53, 54, 55, 56, 57, 58, 59, 60, 61, 62, 63, 64, 65, 66, 112, 113, 114, 84, 85, 86, 87, 88, 89, 90, 97, 98, 99, 100, 101, 102, 103, 104, 105, 106, 107, 108, 109, 115, 116, 117] (by decide +kernel) (by decide +kernel)
set_option maxRecDepth 20000 in
theorem gX6_init_X1_init : GoodIn wsX6_init (wsX1_init) := ggX6_init_X1_init
theorem dX6_init_0 : decode cX6_init 0 = .ok (.aload_n 0, 1) := by decide +kernel
theorem dX6_init_1 : decode cX6_init 1 = .ok (.invokespecial 1, 3) := by decide +kernel
theorem dX6_init_4 : decode cX6_init 4 = .ok (.aload_n 0, 1) := by decide +kernel
theorem dX6_init_5 : decode cX6_init 5 = .ok (.new 7, 3) := by decide +kernel
theorem dX6_init_8 : decode cX6_init 8 = .ok (.dup, 1) := by decide +kernel
theorem dX6_init_9 : decode cX6_init 9 = .ok (.invokespecial 9, 3) := by decide +kernel
theorem dX6_init_12 : decode cX6_init 12 = .ok (.putfield 10, 3) := by decide +kernel
theorem dX6_init_15 : decode cX6_init 15 = .ok (.aload_n 0, 1) := by decide +kernel
theorem dX6_init_16 : decode cX6_init 16 = .ok (.new 16, 3) := by decide +kernel
theorem dX6_init_19 : decode cX6_init 19 = .ok (.dup, 1) := by decide +kernel
theorem dX6_init_20 : decode cX6_init 20 = .ok (.invokespecial 18, 3) := by decide +kernel
theorem dX6_init_23 : decode cX6_init 23 = .ok (.putfield 19, 3) := by decide +kernel
theorem dX6_init_26 : decode cX6_init 26 = .ok (.aload_n 0, 1) := by decide +kernel
theorem dX6_init_27 : decode cX6_init 27 = .ok (.new 23, 3) := by decide +kernel
theorem dX6_init_30 : decode cX6_init 30 = .ok (.dup, 1) := by decide +kernel
theorem dX6_init_31 : decode cX6_init 31 = .ok (.invokespecial 25, 3) := by decide +kernel
theorem dX6_init_34 : decode cX6_init 34 = .ok (.putfield 26, 3) := by decide +kernel
theorem dX6_init_37 : decode cX6_init 37 = .ok (.aload_n 0, 1) := by decide +kernel
theorem dX6_init_38 : decode cX6_init 38 = .ok (.new 30, 3) := by decide +kernel
theorem dX6_init_41 : decode cX6_init 41 = .ok (.dup, 1) := by decide +kernel
theorem dX6_init_42 : decode cX6_init 42 = .ok (.invokespecial 32, 3) := by decide +kernel
theorem dX6_init_45 : decode cX6_init 45 = .ok (.putfield 33, 3) := by decide +kernel
theorem dX6_init_48 : decode cX6_init 48 = .ok (.aload_n 0, 1) := by decide +kernel
theorem dX6_init_49 : decode cX6_init 49 = .ok (.iconst 2, 1) := by decide +kernel
theorem dX6_init_50 : decode cX6_init 50 = .ok (.anewarray 7, 3) := by decide +kernel
theorem dX6_init_53 : decode cX6_init 53 = .ok (.putfield 37, 3) := by decide +kernel
theorem dX6_init_56 : decode cX6_init 56 = .ok (.aload_n 0, 1) := by decide +kernel
theorem dX6_init_57 : decode cX6_init 57 = .ok (.iconst 2, 1) := by decide +kernel
theorem dX6_init_58 : decode cX6_init 58 = .ok (.newarray .boolean, 2) := by decide +kernel
theorem dX6_init_60 : decode cX6_init 60 = .ok (.putfield 41, 3) := by decide +kernel
theorem dX6_init_63 : decode cX6_init 63 = .ok (.iconst 0, 1) := by decide +kernel
theorem dX6_init_64 : decode cX6_init 64 = .ok (.istore_n 1, 1) := by decide +kernel
theorem dX6_init_65 : decode cX6_init 65 = .ok (.iload_n 1, 1) := by decide +kernel
theorem dX6_init_66 : decode cX6_init 66 = .ok (.iconst 2, 1) := by decide +kernel
theorem dX6_init_67 : decode cX6_init 67 = .ok (.if_icmp .ge 22, 3) := by decide +kernel
theorem dX6_init_70 : decode cX6_init 70 = .ok (.aload_n 0, 1) := by decide +kernel
theorem dX6_init_71 : decode cX6_init 71 = .ok (.getfield 37, 3) := by decide +kernel
theorem dX6_init_74 : decode cX6_init 74 = .ok (.iload_n 1, 1) := by decide +kernel
theorem dX6_init_75 : decode cX6_init 75 = .ok (.new 7, 3) := by decide +kernel
theorem dX6_init_78 : decode cX6_init 78 = .ok (.dup, 1) := by decide +kernel
theorem dX6_init_79 : decode cX6_init 79 = .ok (.invokespecial 9, 3) := by decide +kernel
theorem dX6_init_82 : decode cX6_init 82 = .ok (.aastore, 1) := by decide +kernel
theorem dX6_init_83 : decode cX6_init 83 = .ok (.iinc 1 1, 3) := by decide +kernel
theorem dX6_init_86 : decode cX6_init 86 = .ok (.goto (-21), 3) := by decide +kernel
theorem dX6_init_89 : decode cX6_init 89 = .ok (.return_, 1) := by decide +kernel
set_option maxRecDepth 20000 in
theorem ggX6_set_X1_prepare : GoodIn wsX6_set wsX1_prepare := goodIn_r _ [7, 8, 9, 10, 11, 12, 13, 14, 15, 16, 17, 18, 19, 20, 21, 22, 23, 24, 25, 26, 27, 28, 29, 30, 31, 32, 33, 34, 35, 36, 37, 38, 39, 40, 41, 42, 43, 44, 45, 46, 47, 67, 68, 69, 70, 71, 72, 73, 74, 75, 76, 77, 78, 79, 80, 81, 82, 83, 84, 85, 86, 87, 88, 89, 90, 91, 92] (by decide +kernel) (by decide +kernel)
set_option maxRecDepth 20000 in
theorem gX6_set_X1_prepare : GoodIn wsX6_set (wsV RX6 45 RX1 yX1_prepare wsX1_prepare) := goodIn_app (goodIn_of _ (by decide +kernel)) ggX6_set_X1_prepare
set_option maxRecDepth 20000 in
theorem ggX6_set_X2_changeSetting : GoodIn wsX6_set wsX2_changeSetting := goodIn_r _ [51, 15, 70, 71, 72, 73, 74, 75, 76] (by decide +kernel) (by decide +kernel)
set_option maxRecDepth 20000 in
theorem gX6_set_X2_changeSetting : GoodIn wsX6_set (wsV RX6 49 RX2 yX2_changeSetting wsX2_changeSetting) := goodIn_app (goodIn_of _ (by decide +kernel)) ggX6_set_X2_changeSetting
set_option maxRecDepth 20000 in
theorem ggX6_set_X1_settle : GoodIn wsX6_set wsX1_settle := goodIn_r _ [55, 9, 56, 57, 58, 59, 60, 67, 68, 69] (by decide +kernel) (by decide +kernel)
set_option maxRecDepth 20000 in
theorem gX6_set_X1_settle : GoodIn wsX6_set (wsV RX6 53 RX1 yX1_settle wsX1_settle) := goodIn_app (goodIn_of _ (by decide +kernel)) ggX6_set_X1_settle
theorem dX6_set_0 : decode cX6_set 0 = .ok (.aload_n 0, 1) := by decide +kernel
theorem dX6_set_1 : decode cX6_set 1 = .ok (.getfield 33, 3) := by decide +kernel
theorem dX6_set_4 : decode cX6_set 4 = .ok (.aload_n 0, 1) := by decide +kernel
theorem dX6_set_5 : decode cX6_set 5 = .ok (.getfield 10, 3) := by decide +kernel
theorem dX6_set_8 : decode cX6_set 8 = .ok (.invokevirtual 45, 3) := by decide +kernel
theorem dX6_set_11 : decode cX6_set 11 = .ok (.aload_n 0, 1) := by decide +kernel
theorem dX6_set_12 : decode cX6_set 12 = .ok (.getfield 33, 3) := by decide +kernel
theorem dX6_set_15 : decode cX6_set 15 = .ok (.aload_n 0, 1) := by decide +kernel
theorem dX6_set_16 : decode cX6_set 16 = .ok (.getfield 10, 3) := by decide +kernel
theorem dX6_set_19 : decode cX6_set 19 = .ok (.iload_n 1, 1) := by decide +kernel
theorem dX6_set_20 : decode cX6_set 20 = .ok (.iload_n 2, 1) := by decide +kernel
theorem dX6_set_21 : decode cX6_set 21 = .ok (.invokevirtual 49, 3) := by decide +kernel
theorem dX6_set_24 : decode cX6_set 24 = .ok (.invokevirtual 53, 3) := by decide +kernel
theorem dX6_set_27 : decode cX6_set 27 = .ok (.ireturn, 1) := by decide +kernel
set_option maxRecDepth 20000 in
theorem ggX6_meter_X1_prepare : GoodIn wsX6_meter wsX1_prepare := goodIn_r _ [7, 8, 9, 10, 11, 12, 13, 14, 15, 16, 17, 18, 19, 20, 21, 22, 23, 24, 25, 26, 27, 28, 29, 30, 31, 32, 33, 34, 35, 36, 37, 38, 39, 40, 41, 42, 43, 44, 45, 46, 47, 75, 76, 77, 78, 79, 80, 81, 82, 83, 84, 85, 86, 87, 88, 89, 90, 91, 92, 93, 94, 95, 96, 97, 98, 99, 100] (by decide +kernel) (by decide +kernel)
set_option maxRecDepth 20000 in
theorem gX6_meter_X1_prepare : GoodIn wsX6_meter (wsV RX6 45 RX1 yX1_prepare wsX1_prepare) := goodIn_app (goodIn_of _ (by decide +kernel)) ggX6_meter_X1_prepare
set_option maxRecDepth 20000 in
theorem ggX6_meter_X2_addMeter : GoodIn wsX6_meter wsX2_addMeter := goodIn_r _ [51, 16, 21, 17, 52, 53, 54, 13, 55, 56, 57, 58, 25, 59, 27, 28, 29, 30, 31, 32, 33, 34, 35, 36, 37, 38, 39, 78, 79, 80, 81, 82, 83, 84, 85, 86, 87, 88, 89, 90, 91, 92, 93, 94, 95, 96, 97] (by decide +kernel) (by decide +kernel)
set_option maxRecDepth 20000 in
theorem gX6_meter_X2_addMeter : GoodIn wsX6_meter (wsV RX6 57 RX2 yX2_addMeter wsX2_addMeter) := goodIn_app (goodIn_of _ (by decide +kernel)) ggX6_meter_X2_addMeter
set_option maxRecDepth 20000 in
theorem ggX6_meter_X1_settle : GoodIn wsX6_meter wsX1_settle := goodIn_r _ [63, 9, 64, 65, 66, 67, 68, 75, 76, 77] (by decide +kernel) (by decide +kernel)
set_option maxRecDepth 20000 in
theorem gX6_meter_X1_settle : GoodIn wsX6_meter (wsV RX6 53 RX1 yX1_settle wsX1_settle) := goodIn_app (goodIn_of _ (by decide +kernel)) ggX6_meter_X1_settle
theorem dX6_meter_0 : decode cX6_meter 0 = .ok (.aload_n 0, 1) := by decide +kernel
theorem dX6_meter_1 : decode cX6_meter 1 = .ok (.getfield 33, 3) := by decide +kernel
theorem dX6_meter_4 : decode cX6_meter 4 = .ok (.aload_n 0, 1) := by decide +kernel
theorem dX6_meter_5 : decode cX6_meter 5 = .ok (.getfield 10, 3) := by decide +kernel
theorem dX6_meter_8 : decode cX6_meter 8 = .ok (.invokevirtual 45, 3) := by decide +kernel
theorem dX6_meter_11 : decode cX6_meter 11 = .ok (.aload_n 0, 1) := by decide +kernel
theorem dX6_meter_12 : decode cX6_meter 12 = .ok (.getfield 33, 3) := by decide +kernel
theorem dX6_meter_15 : decode cX6_meter 15 = .ok (.aload_n 0, 1) := by decide +kernel
theorem dX6_meter_16 : decode cX6_meter 16 = .ok (.getfield 10, 3) := by decide +kernel
theorem dX6_meter_19 : decode cX6_meter 19 = .ok (.iload_n 1, 1) := by decide +kernel
theorem dX6_meter_20 : decode cX6_meter 20 = .ok (.invokevirtual 57, 3) := by decide +kernel
theorem dX6_meter_23 : decode cX6_meter 23 = .ok (.invokevirtual 53, 3) := by decide +kernel
theorem dX6_meter_26 : decode cX6_meter 26 = .ok (.ireturn, 1) := by decide +kernel
set_option maxRecDepth 20000 in
theorem ggX6_load_X1_prepare : GoodIn wsX6_load wsX1_prepare := goodIn_r _ [7, 8, 9, 10, 11, 12, 13, 14, 15, 16, 17, 18, 19, 20, 21, 22, 23, 24, 25, 26, 27, 28, 29, 30, 31, 32, 33, 34, 35, 36, 37, 38, 39, 40, 41, 42, 43, 44, 45, 46, 47, 75, 76, 77, 78, 79, 80, 81, 82, 83, 84, 85, 86, 87, 88, 89, 90, 91, 92, 93, 94, 95, 96, 97, 98, 99, 100] (by decide +kernel) (by decide +kernel)
set_option maxRecDepth 20000 in
theorem gX6_load_X1_prepare : GoodIn wsX6_load (wsV RX6 45 RX1 yX1_prepare wsX1_prepare) := goodIn_app (goodIn_of _ (by decide +kernel)) ggX6_load_X1_prepare
set_option maxRecDepth 20000 in
theorem ggX6_load_X2_addLoad : GoodIn wsX6_load wsX2_addLoad := goodIn_r _ [51, 18, 19, 52, 53, 54, 13, 55, 16, 17, 56, 57, 58, 43, 59, 45, 46, 47, 78, 79, 80, 81, 82, 83, 84, 98, 99, 100] (by decide +kernel) (by decide +kernel)
set_option maxRecDepth 20000 in
theorem gX6_load_X2_addLoad : GoodIn wsX6_load (wsV RX6 60 RX2 yX2_addLoad wsX2_addLoad) := goodIn_app (goodIn_of _ (by decide +kernel)) ggX6_load_X2_addLoad
set_option maxRecDepth 20000 in
theorem ggX6_load_X1_settle : GoodIn wsX6_load wsX1_settle := goodIn_r _ [63, 9, 64, 65, 66, 67, 68, 75, 76, 77] (by decide +kernel) (by decide +kernel)
set_option maxRecDepth 20000 in
theorem gX6_load_X1_settle : GoodIn wsX6_load (wsV RX6 53 RX1 yX1_settle wsX1_settle) := goodIn_app (goodIn_of _ (by decide +kernel)) ggX6_load_X1_settle
theorem dX6_load_0 : decode cX6_load 0 = .ok (.aload_n 0, 1) := by decide +kernel
theorem dX6_load_1 : decode cX6_load 1 = .ok (.getfield 33, 3) := by decide +kernel
theorem dX6_load_4 : decode cX6_load 4 = .ok (.aload_n 0, 1) := by decide +kernel
theorem dX6_load_5 : decode cX6_load 5 = .ok (.getfield 10, 3) := by decide +kernel
theorem dX6_load_8 : decode cX6_load 8 = .ok (.invokevirtual 45, 3) := by decide +kernel
theorem dX6_load_11 : decode cX6_load 11 = .ok (.aload_n 0, 1) := by decide +kernel
theorem dX6_load_12 : decode cX6_load 12 = .ok (.getfield 33, 3) := by decide +kernel
theorem dX6_load_15 : decode cX6_load 15 = .ok (.aload_n 0, 1) := by decide +kernel
theorem dX6_load_16 : decode cX6_load 16 = .ok (.getfield 10, 3) := by decide +kernel
theorem dX6_load_19 : decode cX6_load 19 = .ok (.iload_n 1, 1) := by decide +kernel
theorem dX6_load_20 : decode cX6_load 20 = .ok (.iload_n 2, 1) := by decide +kernel
theorem dX6_load_21 : decode cX6_load 21 = .ok (.invokevirtual 60, 3) := by decide +kernel
theorem dX6_load_24 : decode cX6_load 24 = .ok (.invokevirtual 53, 3) := by decide +kernel
theorem dX6_load_27 : decode cX6_load 27 = .ok (.ireturn, 1) := by decide +kernel
set_option maxRecDepth 20000 in
theorem ggX6_turn_X1_prepare : GoodIn wsX6_turn wsX1_prepare := goodIn_r _ [7, 8, 9, 10, 11, 12, 13, 14, 15, 16, 17, 18, 19, 20, 21, 22, 23, 24, 25, 26, 27, 28, 29, 30, 31, 32, 33, 34, 35, 36, 37, 38, 39, 40, 41, 42, 43, 44, 45, 46, 47, 72, 73, 74, 75, 76, 77, 78, 79, 80, 81, 82, 83, 84, 85, 86, 87, 88, 89, 90, 91, 92, 93, 94, 95, 96, 97] (by decide +kernel) (by decide +kernel)
set_option maxRecDepth 20000 in
theorem gX6_turn_X1_prepare : GoodIn wsX6_turn (wsV RX6 45 RX1 yX1_prepare wsX1_prepare) := goodIn_app (goodIn_of _ (by decide +kernel)) ggX6_turn_X1_prepare
set_option maxRecDepth 20000 in
theorem ggX6_turn_X2_switchLoad : GoodIn wsX6_turn wsX2_switchLoad := goodIn_r _ [51, 52, 53, 54, 55, 13, 56, 18, 19, 95, 96, 97, 75, 76, 77, 78, 79, 80, 81] (by decide +kernel) (by decide +kernel)
set_option maxRecDepth 20000 in
theorem gX6_turn_X2_switchLoad : GoodIn wsX6_turn (wsV RX6 63 RX2 yX2_switchLoad wsX2_switchLoad) := goodIn_app (goodIn_of _ (by decide +kernel)) ggX6_turn_X2_switchLoad
set_option maxRecDepth 20000 in
theorem ggX6_turn_X1_settle : GoodIn wsX6_turn wsX1_settle := goodIn_r _ [60, 9, 61, 62, 63, 64, 65, 72, 73, 74] (by decide +kernel) (by decide +kernel)
set_option maxRecDepth 20000 in
theorem gX6_turn_X1_settle : GoodIn wsX6_turn (wsV RX6 53 RX1 yX1_settle wsX1_settle) := goodIn_app (goodIn_of _ (by decide +kernel)) ggX6_turn_X1_settle
theorem dX6_turn_0 : decode cX6_turn 0 = .ok (.aload_n 0, 1) := by decide +kernel
theorem dX6_turn_1 : decode cX6_turn 1 = .ok (.getfield 33, 3) := by decide +kernel
theorem dX6_turn_4 : decode cX6_turn 4 = .ok (.aload_n 0, 1) := by decide +kernel
theorem dX6_turn_5 : decode cX6_turn 5 = .ok (.getfield 10, 3) := by decide +kernel
theorem dX6_turn_8 : decode cX6_turn 8 = .ok (.invokevirtual 45, 3) := by decide +kernel
theorem dX6_turn_11 : decode cX6_turn 11 = .ok (.aload_n 0, 1) := by decide +kernel
theorem dX6_turn_12 : decode cX6_turn 12 = .ok (.getfield 33, 3) := by decide +kernel
theorem dX6_turn_15 : decode cX6_turn 15 = .ok (.aload_n 0, 1) := by decide +kernel
theorem dX6_turn_16 : decode cX6_turn 16 = .ok (.getfield 10, 3) := by decide +kernel
theorem dX6_turn_19 : decode cX6_turn 19 = .ok (.iload_n 1, 1) := by decide +kernel
theorem dX6_turn_20 : decode cX6_turn 20 = .ok (.invokevirtual 63, 3) := by decide +kernel
theorem dX6_turn_23 : decode cX6_turn 23 = .ok (.invokevirtual 53, 3) := by decide +kernel
theorem dX6_turn_26 : decode cX6_turn 26 = .ok (.ireturn, 1) := by decide +kernel
set_option maxRecDepth 20000 in
theorem ggX6_tamper_X1_prepare : GoodIn wsX6_tamper wsX1_prepare := goodIn_r _ [7, 8, 9, 10, 11, 12, 13, 14, 15, 16, 17, 18, 19, 20, 21, 22, 23, 24, 25, 26, 27, 28, 29, 30, 31, 32, 33, 34, 35, 36, 37, 38, 39, 40, 41, 42, 43, 44, 45, 46, 47, 73, 74, 75, 76, 77, 78, 79, 80, 81, 82, 83, 84, 85, 86, 87, 88, 89, 90, 91, 92, 93, 94, 95, 96, 97, 98] (by decide +kernel) (by decide +kernel)
set_option maxRecDepth 20000 in
theorem gX6_tamper_X1_prepare : GoodIn wsX6_tamper (wsV RX6 45 RX1 yX1_prepare wsX1_prepare) := goodIn_app (goodIn_of _ (by decide +kernel)) ggX6_tamper_X1_prepare
set_option maxRecDepth 20000 in
theorem ggX6_tamper_X2_breakSeal : GoodIn wsX6_tamper wsX2_breakSeal := goodIn_r _ [51, 52, 53, 54, 55, 56, 13, 57, 16, 17, 83, 84, 85, 86, 87, 88, 89, 90, 91, 92, 93, 94, 95, 76, 77, 78, 79, 80, 81, 82] (by decide +kernel) (by decide +kernel)
set_option maxRecDepth 20000 in
theorem gX6_tamper_X2_breakSeal : GoodIn wsX6_tamper (wsV RX6 66 RX2 yX2_breakSeal wsX2_breakSeal) := goodIn_app (goodIn_of _ (by decide +kernel)) ggX6_tamper_X2_breakSeal
set_option maxRecDepth 20000 in
theorem ggX6_tamper_X1_settle : GoodIn wsX6_tamper wsX1_settle := goodIn_r _ [61, 9, 62, 63, 64, 65, 66, 73, 74, 75] (by decide +kernel) (by decide +kernel)
set_option maxRecDepth 20000 in
theorem gX6_tamper_X1_settle : GoodIn wsX6_tamper (wsV RX6 53 RX1 yX1_settle wsX1_settle) := goodIn_app (goodIn_of _ (by decide +kernel)) ggX6_tamper_X1_settle
theorem dX6_tamper_0 : decode cX6_tamper 0 = .ok (.aload_n 0, 1) := by decide +kernel
theorem dX6_tamper_1 : decode cX6_tamper 1 = .ok (.getfield 33, 3) := by decide +kernel
theorem dX6_tamper_4 : decode cX6_tamper 4 = .ok (.aload_n 0, 1) := by decide +kernel
theorem dX6_tamper_5 : decode cX6_tamper 5 = .ok (.getfield 10, 3) := by decide +kernel
theorem dX6_tamper_8 : decode cX6_tamper 8 = .ok (.invokevirtual 45, 3) := by decide +kernel
theorem dX6_tamper_11 : decode cX6_tamper 11 = .ok (.aload_n 0, 1) := by decide +kernel
theorem dX6_tamper_12 : decode cX6_tamper 12 = .ok (.getfield 33, 3) := by decide +kernel
theorem dX6_tamper_15 : decode cX6_tamper 15 = .ok (.aload_n 0, 1) := by decide +kernel
theorem dX6_tamper_16 : decode cX6_tamper 16 = .ok (.getfield 10, 3) := by decide +kernel
theorem dX6_tamper_19 : decode cX6_tamper 19 = .ok (.iload_n 1, 1) := by decide +kernel
theorem dX6_tamper_20 : decode cX6_tamper 20 = .ok (.invokevirtual 66, 3) := by decide +kernel
theorem dX6_tamper_23 : decode cX6_tamper 23 = .ok (.invokevirtual 53, 3) := by decide +kernel
theorem dX6_tamper_26 : decode cX6_tamper 26 = .ok (.ireturn, 1) := by decide +kernel
set_option maxRecDepth 20000 in
theorem ggX6_visit_X1_prepare : GoodIn wsX6_visit wsX1_prepare := goodIn_r _ [7, 8, 9, 10, 11, 12, 13, 14, 15, 16, 17, 18, 19, 20, 21, 22, 23, 24, 25, 26, 27, 28, 29, 30, 31, 32, 33, 34, 35, 36, 37, 38, 39, 40, 41, 42, 43, 44, 45, 46, 47, 92, 93, 94, 95, 96, 97, 98, 99, 100, 101, 102, 103, 104, 105, 106, 107, 108, 109, 110, 111, 112, 113, 114, 115, 116, 117] (by decide +kernel) (by decide +kernel)
set_option maxRecDepth 20000 in
theorem gX6_visit_X1_prepare : GoodIn wsX6_visit (wsV RX6 45 RX1 yX1_prepare wsX1_prepare) := goodIn_app (goodIn_of _ (by decide +kernel)) ggX6_visit_X1_prepare
set_option maxRecDepth 20000 in
theorem ggX6_visit_X2_inspect : GoodIn wsX6_visit wsX2_inspect := goodIn_r _ [51, 52, 21, 53, 54, 55, 13, 56, 16, 17, 57, 58, 59, 60, 15, 61, 62, 63, 25, 64, 31, 33, 65, 66, 67, 68, 32, 34, 69, 70, 71, 72, 38, 39, 29, 30, 73, 74, 75, 76, 37, 36, 102, 103, 104, 105, 106, 107, 108, 109, 110, 111, 112, 113, 114, 95, 96, 97, 98, 99, 100, 101] (by decide +kernel) (by decide +kernel)
set_option maxRecDepth 20000 in
theorem gX6_visit_X2_inspect : GoodIn wsX6_visit (wsV RX6 69 RX2 yX2_inspect wsX2_inspect) := goodIn_app (goodIn_of _ (by decide +kernel)) ggX6_visit_X2_inspect
set_option maxRecDepth 20000 in
theorem ggX6_visit_X1_settle : GoodIn wsX6_visit wsX1_settle := goodIn_r _ [80, 9, 81, 82, 83, 84, 85, 92, 93, 94] (by decide +kernel) (by decide +kernel)
set_option maxRecDepth 20000 in
theorem gX6_visit_X1_settle : GoodIn wsX6_visit (wsV RX6 53 RX1 yX1_settle wsX1_settle) := goodIn_app (goodIn_of _ (by decide +kernel)) ggX6_visit_X1_settle
theorem dX6_visit_0 : decode cX6_visit 0 = .ok (.aload_n 0, 1) := by decide +kernel
theorem dX6_visit_1 : decode cX6_visit 1 = .ok (.getfield 33, 3) := by decide +kernel
theorem dX6_visit_4 : decode cX6_visit 4 = .ok (.aload_n 0, 1) := by decide +kernel
theorem dX6_visit_5 : decode cX6_visit 5 = .ok (.getfield 10, 3) := by decide +kernel
theorem dX6_visit_8 : decode cX6_visit 8 = .ok (.invokevirtual 45, 3) := by decide +kernel
theorem dX6_visit_11 : decode cX6_visit 11 = .ok (.aload_n 0, 1) := by decide +kernel
theorem dX6_visit_12 : decode cX6_visit 12 = .ok (.getfield 33, 3) := by decide +kernel
theorem dX6_visit_15 : decode cX6_visit 15 = .ok (.aload_n 0, 1) := by decide +kernel
theorem dX6_visit_16 : decode cX6_visit 16 = .ok (.getfield 10, 3) := by decide +kernel
theorem dX6_visit_19 : decode cX6_visit 19 = .ok (.iload_n 1, 1) := by decide +kernel
theorem dX6_visit_20 : decode cX6_visit 20 = .ok (.invokevirtual 69, 3) := by decide +kernel
theorem dX6_visit_23 : decode cX6_visit 23 = .ok (.invokevirtual 53, 3) := by decide +kernel
theorem dX6_visit_26 : decode cX6_visit 26 = .ok (.ireturn, 1) := by decide +kernel
set_option maxRecDepth 20000 in
theorem ggX6_pass_X1_prepare : GoodIn wsX6_pass wsX1_prepare := goodIn_r _ [7, 8, 9, 10, 11, 12, 13, 14, 15, 16, 17, 18, 19, 20, 21, 22, 23, 24, 25, 26, 27, 28, 29, 30, 31, 32, 33, 34, 35, 36, 37, 38, 39, 40, 41, 42, 43, 44, 45, 46, 47, 110, 111, 112, 113, 114, 115, 116, 117, 118, 119, 120, 121, 122, 123, 124, 125, 126, 127, 128, 129, 130, 131, 132, 133, 134, 135] (by decide +kernel) (by decide +kernel)
set_option maxRecDepth 20000 in
theorem gX6_pass_X1_prepare : GoodIn wsX6_pass (wsV RX6 45 RX1 yX1_prepare wsX1_prepare) := goodIn_app (goodIn_of _ (by decide +kernel)) ggX6_pass_X1_prepare
set_option maxRecDepth 20000 in
theorem ggX6_pass_X2_elapse : GoodIn wsX6_pass wsX2_elapse := goodIn_r _ [51, 20, 52, 16, 17, 53, 54, 55, 13, 56, 18, 19, 57, 58, 59, 60, 61, 62, 63, 64, 65, 66, 67, 68, 69, 70, 71, 15, 72, 73, 74, 75, 76, 77, 78, 79, 80, 81, 82, 83, 84, 25, 85, 30, 86, 87, 88, 89, 90, 91, 92, 35, 28, 32, 31, 29, 93, 94, 95, 96, 97, 37, 113, 114, 115, 116, 117, 118, 119, 133, 134, 135, 120, 121, 122, 123, 124, 125, 126, 127, 128, 129, 130, 131, 132] (by decide +kernel) (by decide +kernel)
set_option maxRecDepth 20000 in
theorem gX6_pass_X2_elapse : GoodIn wsX6_pass (wsV RX6 72 RX2 yX2_elapse wsX2_elapse) := goodIn_app (goodIn_of _ (by decide +kernel)) ggX6_pass_X2_elapse
set_option maxRecDepth 20000 in
theorem ggX6_pass_X1_settle : GoodIn wsX6_pass wsX1_settle := goodIn_r _ [101, 9, 102, 103, 73, 74, 75, 110, 111, 112] (by decide +kernel) (by decide +kernel)
set_option maxRecDepth 20000 in
theorem gX6_pass_X1_settle : GoodIn wsX6_pass (wsV RX6 53 RX1 yX1_settle wsX1_settle) := goodIn_app (goodIn_of _ (by decide +kernel)) ggX6_pass_X1_settle
theorem dX6_pass_0 : decode cX6_pass 0 = .ok (.aload_n 0, 1) := by decide +kernel
theorem dX6_pass_1 : decode cX6_pass 1 = .ok (.getfield 33, 3) := by decide +kernel
theorem dX6_pass_4 : decode cX6_pass 4 = .ok (.aload_n 0, 1) := by decide +kernel
theorem dX6_pass_5 : decode cX6_pass 5 = .ok (.getfield 10, 3) := by decide +kernel
theorem dX6_pass_8 : decode cX6_pass 8 = .ok (.invokevirtual 45, 3) := by decide +kernel
theorem dX6_pass_11 : decode cX6_pass 11 = .ok (.aload_n 0, 1) := by decide +kernel
theorem dX6_pass_12 : decode cX6_pass 12 = .ok (.getfield 33, 3) := by decide +kernel
theorem dX6_pass_15 : decode cX6_pass 15 = .ok (.aload_n 0, 1) := by decide +kernel
theorem dX6_pass_16 : decode cX6_pass 16 = .ok (.getfield 10, 3) := by decide +kernel
theorem dX6_pass_19 : decode cX6_pass 19 = .ok (.iload_n 1, 1) := by decide +kernel
theorem dX6_pass_20 : decode cX6_pass 20 = .ok (.invokevirtual 72, 3) := by decide +kernel
theorem dX6_pass_23 : decode cX6_pass 23 = .ok (.invokevirtual 53, 3) := by decide +kernel
theorem dX6_pass_26 : decode cX6_pass 26 = .ok (.ireturn, 1) := by decide +kernel
set_option maxRecDepth 20000 in
theorem ggX6_write_X2_meterAt : GoodIn wsX6_write wsX2_meterAt := goodIn_r _ [12, 13, 14, 51, 52, 53, 54, 55, 56, 57] (by decide +kernel) (by decide +kernel)
set_option maxRecDepth 20000 in
theorem gX6_write_X2_meterAt : GoodIn wsX6_write (wsV RX6 75 RX2 yX2_meterAt wsX2_meterAt) := goodIn_app (goodIn_of _ (by decide +kernel)) ggX6_write_X2_meterAt
set_option maxRecDepth 20000 in
theorem ggX6_write_X5_clear : GoodIn wsX6_write wsX5_clear := goodIn_r _ [19, 20, 49, 50] (by decide +kernel) (by decide +kernel)
set_option maxRecDepth 20000 in
theorem gX6_write_X5_clear : GoodIn wsX6_write (wsV RX6 79 RX5 yX5_clear wsX5_clear) := goodIn_app (goodIn_of _ (by decide +kernel)) ggX6_write_X5_clear
set_option maxRecDepth 20000 in
theorem ggX6_write_X5_append : GoodIn wsX6_write wsX5_append := goodIn_r _ [24, 20, 25, 49, 50] (by decide +kernel) (by decide +kernel)
set_option maxRecDepth 20000 in
theorem gX6_write_X5_append : GoodIn wsX6_write (wsV RX6 82 RX5 yX5_append wsX5_append) := goodIn_app (goodIn_of _ (by decide +kernel)) ggX6_write_X5_append
set_option maxRecDepth 20000 in
theorem ggX6_write_X5_appendNumber : GoodIn wsX6_write wsX5_appendNumber := goodIn_r _ [29, 20, 25, 49, 50] (by decide +kernel) (by decide +kernel)
set_option maxRecDepth 20000 in
theorem gX6_write_X5_appendNumber : GoodIn wsX6_write (wsV RX6 90 RX5 yX5_appendNumber wsX5_appendNumber) := goodIn_app (goodIn_of _ (by decide +kernel)) ggX6_write_X5_appendNumber
theorem dX6_write_0 : decode cX6_write 0 = .ok (.aload_n 0, 1) := by decide +kernel
theorem dX6_write_1 : decode cX6_write 1 = .ok (.getfield 10, 3) := by decide +kernel
theorem dX6_write_4 : decode cX6_write 4 = .ok (.iload_n 1, 1) := by decide +kernel
theorem dX6_write_5 : decode cX6_write 5 = .ok (.invokevirtual 75, 3) := by decide +kernel
theorem dX6_write_8 : decode cX6_write 8 = .ok (.astore_n 2, 1) := by decide +kernel
theorem dX6_write_9 : decode cX6_write 9 = .ok (.aload_n 2, 1) := by decide +kernel
theorem dX6_write_10 : decode cX6_write 10 = .ok (.ifnonnull 5, 3) := by decide +kernel
theorem dX6_write_13 : decode cX6_write 13 = .ok (.iconst (-1), 1) := by decide +kernel
theorem dX6_write_14 : decode cX6_write 14 = .ok (.ireturn, 1) := by decide +kernel
theorem dX6_write_15 : decode cX6_write 15 = .ok (.aload_n 0, 1) := by decide +kernel
theorem dX6_write_16 : decode cX6_write 16 = .ok (.getfield 26, 3) := by decide +kernel
theorem dX6_write_19 : decode cX6_write 19 = .ok (.invokevirtual 79, 3) := by decide +kernel
theorem dX6_write_22 : decode cX6_write 22 = .ok (.aload_n 0, 1) := by decide +kernel
theorem dX6_write_23 : decode cX6_write 23 = .ok (.getfield 26, 3) := by decide +kernel
theorem dX6_write_26 : decode cX6_write 26 = .ok (.bipush 100, 2) := by decide +kernel
theorem dX6_write_28 : decode cX6_write 28 = .ok (.invokevirtual 82, 3) := by decide +kernel
theorem dX6_write_31 : decode cX6_write 31 = .ok (.aload_n 0, 1) := by decide +kernel
theorem dX6_write_32 : decode cX6_write 32 = .ok (.getfield 26, 3) := by decide +kernel
theorem dX6_write_35 : decode cX6_write 35 = .ok (.aload_n 2, 1) := by decide +kernel
theorem dX6_write_36 : decode cX6_write 36 = .ok (.getfield 86, 3) := by decide +kernel
theorem dX6_write_39 : decode cX6_write 39 = .ok (.invokevirtual 90, 3) := by decide +kernel
theorem dX6_write_42 : decode cX6_write 42 = .ok (.aload_n 0, 1) := by decide +kernel
theorem dX6_write_43 : decode cX6_write 43 = .ok (.getfield 26, 3) := by decide +kernel
theorem dX6_write_46 : decode cX6_write 46 = .ok (.bipush 110, 2) := by decide +kernel
theorem dX6_write_48 : decode cX6_write 48 = .ok (.invokevirtual 82, 3) := by decide +kernel
theorem dX6_write_51 : decode cX6_write 51 = .ok (.aload_n 0, 1) := by decide +kernel
theorem dX6_write_52 : decode cX6_write 52 = .ok (.getfield 26, 3) := by decide +kernel
theorem dX6_write_55 : decode cX6_write 55 = .ok (.aload_n 2, 1) := by decide +kernel
theorem dX6_write_56 : decode cX6_write 56 = .ok (.getfield 94, 3) := by decide +kernel
theorem dX6_write_59 : decode cX6_write 59 = .ok (.invokevirtual 90, 3) := by decide +kernel
theorem dX6_write_62 : decode cX6_write 62 = .ok (.aload_n 0, 1) := by decide +kernel
theorem dX6_write_63 : decode cX6_write 63 = .ok (.getfield 26, 3) := by decide +kernel
theorem dX6_write_66 : decode cX6_write 66 = .ok (.bipush 35, 2) := by decide +kernel
theorem dX6_write_68 : decode cX6_write 68 = .ok (.invokevirtual 82, 3) := by decide +kernel
theorem dX6_write_71 : decode cX6_write 71 = .ok (.aload_n 0, 1) := by decide +kernel
theorem dX6_write_72 : decode cX6_write 72 = .ok (.getfield 26, 3) := by decide +kernel
theorem dX6_write_75 : decode cX6_write 75 = .ok (.aload_n 2, 1) := by decide +kernel
theorem dX6_write_76 : decode cX6_write 76 = .ok (.getfield 97, 3) := by decide +kernel
theorem dX6_write_79 : decode cX6_write 79 = .ok (.invokevirtual 90, 3) := by decide +kernel
theorem dX6_write_82 : decode cX6_write 82 = .ok (.aload_n 2, 1) := by decide +kernel
theorem dX6_write_83 : decode cX6_write 83 = .ok (.getfield 100, 3) := by decide +kernel
theorem dX6_write_86 : decode cX6_write 86 = .ok (.ifCond .eq 12, 3) := by decide +kernel
theorem dX6_write_89 : decode cX6_write 89 = .ok (.aload_n 0, 1) := by decide +kernel
theorem dX6_write_90 : decode cX6_write 90 = .ok (.getfield 26, 3) := by decide +kernel
theorem dX6_write_93 : decode cX6_write 93 = .ok (.bipush 33, 2) := by decide +kernel
theorem dX6_write_95 : decode cX6_write 95 = .ok (.invokevirtual 82, 3) := by decide +kernel
theorem dX6_write_98 : decode cX6_write 98 = .ok (.aload_n 0, 1) := by decide +kernel
theorem dX6_write_99 : decode cX6_write 99 = .ok (.getfield 26, 3) := by decide +kernel
theorem dX6_write_102 : decode cX6_write 102 = .ok (.getfield 104, 3) := by decide +kernel
theorem dX6_write_105 : decode cX6_write 105 = .ok (.ireturn, 1) := by decide +kernel
set_option maxRecDepth 20000 in
theorem ggX6_sign_X5_signAt : GoodIn wsX6_sign wsX5_signAt := goodIn_r _ [6, 7, 8, 15, 16] (by decide +kernel) (by decide +kernel)
set_option maxRecDepth 20000 in
theorem gX6_sign_X5_signAt : GoodIn wsX6_sign (wsV RX6 107 RX5 yX5_signAt wsX5_signAt) := goodIn_app (goodIn_of _ (by decide +kernel)) ggX6_sign_X5_signAt
theorem dX6_sign_0 : decode cX6_sign 0 = .ok (.aload_n 0, 1) := by decide +kernel
theorem dX6_sign_1 : decode cX6_sign 1 = .ok (.getfield 26, 3) := by decide +kernel
theorem dX6_sign_4 : decode cX6_sign 4 = .ok (.iload_n 1, 1) := by decide +kernel
theorem dX6_sign_5 : decode cX6_sign 5 = .ok (.invokevirtual 107, 3) := by decide +kernel
theorem dX6_sign_8 : decode cX6_sign 8 = .ok (.ireturn, 1) := by decide +kernel
set_option maxRecDepth 20000 in
theorem ggX6_of_X2_meterAt : GoodIn wsX6_of wsX2_meterAt := goodIn_r _ [18, 19, 20, 72, 73, 74, 75, 76, 77, 78] (by decide +kernel) (by decide +kernel)
set_option maxRecDepth 20000 in
theorem gX6_of_X2_meterAt : GoodIn wsX6_of (wsV RX6 75 RX2 yX2_meterAt wsX2_meterAt) := goodIn_app (goodIn_of _ (by decide +kernel)) ggX6_of_X2_meterAt
set_option maxRecDepth 20000 in
theorem ggX6_of_X2_powerOf : GoodIn wsX6_of wsX2_powerOf := goodIn_r _ [24, 25, 26, 27, 28, 29, 30, 31, 32, 17, 33, 19, 20, 34, 35, 36, 37, 72, 73, 74, 75, 76, 77, 78, 79, 80, 81, 59, 60, 61, 62, 63, 64, 65, 66, 67, 68, 69, 70, 71] (by decide +kernel) (by decide +kernel)
set_option maxRecDepth 20000 in
theorem gX6_of_X2_powerOf : GoodIn wsX6_of (wsV RX6 113 RX2 yX2_powerOf wsX2_powerOf) := goodIn_app (goodIn_of _ (by decide +kernel)) ggX6_of_X2_powerOf
set_option maxRecDepth 20000 in
theorem ggX6_of_X4_minutesToWeaken : GoodIn wsX6_of wsX4_minutesToWeaken := goodIn_r _ [42, 43, 44, 45, 46, 41, 47, 48, 49, 50, 51, 52, 59, 60, 61, 62, 63, 64, 65, 66, 67, 68, 69, 70, 71] (by decide +kernel) (by decide +kernel)
set_option maxRecDepth 20000 in
theorem gX6_of_X4_minutesToWeaken : GoodIn wsX6_of (wsV RX6 135 RX4 yX4_minutesToWeaken wsX4_minutesToWeaken) := goodIn_app (goodIn_of _ (by decide +kernel)) ggX6_of_X4_minutesToWeaken
theorem dX6_of_0 : decode cX6_of 0 = .ok (.aload_n 0, 1) := by decide +kernel
theorem dX6_of_1 : decode cX6_of 1 = .ok (.getfield 10, 3) := by decide +kernel
theorem dX6_of_4 : decode cX6_of 4 = .ok (.iload_n 1, 1) := by decide +kernel
theorem dX6_of_5 : decode cX6_of 5 = .ok (.invokevirtual 75, 3) := by decide +kernel
theorem dX6_of_8 : decode cX6_of 8 = .ok (.astore_n 3, 1) := by decide +kernel
theorem dX6_of_9 : decode cX6_of 9 = .ok (.aload_n 3, 1) := by decide +kernel
theorem dX6_of_10 : decode cX6_of 10 = .ok (.ifnonnull 5, 3) := by decide +kernel
theorem dX6_of_13 : decode cX6_of 13 = .ok (.iconst (-1), 1) := by decide +kernel
theorem dX6_of_14 : decode cX6_of 14 = .ok (.ireturn, 1) := by decide +kernel
theorem dX6_of_15 : decode cX6_of 15 = .ok (.iload_n 2, 1) := by decide +kernel
theorem dX6_of_16 : decode cX6_of 16 = .ok (.tableswitch 150 0 11 #[64, 69, 78, 83, 88, 93, 98, 108, 113, 126, 131, 145], 64) := by decide +kernel
theorem dX6_of_80 : decode cX6_of 80 = .ok (.aload_n 3, 1) := by decide +kernel
theorem dX6_of_81 : decode cX6_of 81 = .ok (.getfield 110, 3) := by decide +kernel
theorem dX6_of_84 : decode cX6_of 84 = .ok (.ireturn, 1) := by decide +kernel
theorem dX6_of_85 : decode cX6_of 85 = .ok (.aload_n 0, 1) := by decide +kernel
theorem dX6_of_86 : decode cX6_of 86 = .ok (.getfield 10, 3) := by decide +kernel
theorem dX6_of_89 : decode cX6_of 89 = .ok (.iload_n 1, 1) := by decide +kernel
theorem dX6_of_90 : decode cX6_of 90 = .ok (.invokevirtual 113, 3) := by decide +kernel
theorem dX6_of_93 : decode cX6_of 93 = .ok (.ireturn, 1) := by decide +kernel
theorem dX6_of_94 : decode cX6_of 94 = .ok (.aload_n 3, 1) := by decide +kernel
theorem dX6_of_95 : decode cX6_of 95 = .ok (.getfield 116, 3) := by decide +kernel
theorem dX6_of_98 : decode cX6_of 98 = .ok (.ireturn, 1) := by decide +kernel
theorem dX6_of_99 : decode cX6_of 99 = .ok (.aload_n 3, 1) := by decide +kernel
theorem dX6_of_100 : decode cX6_of 100 = .ok (.getfield 119, 3) := by decide +kernel
theorem dX6_of_103 : decode cX6_of 103 = .ok (.ireturn, 1) := by decide +kernel
theorem dX6_of_104 : decode cX6_of 104 = .ok (.aload_n 3, 1) := by decide +kernel
theorem dX6_of_105 : decode cX6_of 105 = .ok (.getfield 86, 3) := by decide +kernel
theorem dX6_of_108 : decode cX6_of 108 = .ok (.ireturn, 1) := by decide +kernel
theorem dX6_of_109 : decode cX6_of 109 = .ok (.aload_n 3, 1) := by decide +kernel
theorem dX6_of_110 : decode cX6_of 110 = .ok (.getfield 94, 3) := by decide +kernel
theorem dX6_of_113 : decode cX6_of 113 = .ok (.ireturn, 1) := by decide +kernel
theorem dX6_of_114 : decode cX6_of 114 = .ok (.aload_n 3, 1) := by decide +kernel
theorem dX6_of_115 : decode cX6_of 115 = .ok (.getfield 122, 3) := by decide +kernel
theorem dX6_of_118 : decode cX6_of 118 = .ok (.ldc2_w 126, 3) := by decide +kernel
theorem dX6_of_121 : decode cX6_of 121 = .ok (.ldiv, 1) := by decide +kernel
theorem dX6_of_122 : decode cX6_of 122 = .ok (.l2i, 1) := by decide +kernel
theorem dX6_of_123 : decode cX6_of 123 = .ok (.ireturn, 1) := by decide +kernel
theorem dX6_of_124 : decode cX6_of 124 = .ok (.aload_n 3, 1) := by decide +kernel
theorem dX6_of_125 : decode cX6_of 125 = .ok (.getfield 97, 3) := by decide +kernel
theorem dX6_of_128 : decode cX6_of 128 = .ok (.ireturn, 1) := by decide +kernel
theorem dX6_of_129 : decode cX6_of 129 = .ok (.aload_n 3, 1) := by decide +kernel
theorem dX6_of_130 : decode cX6_of 130 = .ok (.getfield 100, 3) := by decide +kernel
theorem dX6_of_133 : decode cX6_of 133 = .ok (.ifCond .eq 7, 3) := by decide +kernel
theorem dX6_of_136 : decode cX6_of 136 = .ok (.iconst 1, 1) := by decide +kernel
theorem dX6_of_137 : decode cX6_of 137 = .ok (.goto 4, 3) := by decide +kernel
theorem dX6_of_140 : decode cX6_of 140 = .ok (.iconst 0, 1) := by decide +kernel
theorem dX6_of_141 : decode cX6_of 141 = .ok (.ireturn, 1) := by decide +kernel
theorem dX6_of_142 : decode cX6_of 142 = .ok (.aload_n 3, 1) := by decide +kernel
theorem dX6_of_143 : decode cX6_of 143 = .ok (.getfield 128, 3) := by decide +kernel
theorem dX6_of_146 : decode cX6_of 146 = .ok (.ireturn, 1) := by decide +kernel
theorem dX6_of_147 : decode cX6_of 147 = .ok (.aload_n 3, 1) := by decide +kernel
theorem dX6_of_148 : decode cX6_of 148 = .ok (.aload_n 0, 1) := by decide +kernel
theorem dX6_of_149 : decode cX6_of 149 = .ok (.getfield 10, 3) := by decide +kernel
theorem dX6_of_152 : decode cX6_of 152 = .ok (.getfield 131, 3) := by decide +kernel
theorem dX6_of_155 : decode cX6_of 155 = .ok (.iconst 3, 1) := by decide +kernel
theorem dX6_of_156 : decode cX6_of 156 = .ok (.iaload, 1) := by decide +kernel
theorem dX6_of_157 : decode cX6_of 157 = .ok (.invokevirtual 135, 3) := by decide +kernel
theorem dX6_of_160 : decode cX6_of 160 = .ok (.ireturn, 1) := by decide +kernel
theorem dX6_of_161 : decode cX6_of 161 = .ok (.aload_n 3, 1) := by decide +kernel
theorem dX6_of_162 : decode cX6_of 162 = .ok (.getfield 138, 3) := by decide +kernel
theorem dX6_of_165 : decode cX6_of 165 = .ok (.ireturn, 1) := by decide +kernel
theorem dX6_of_166 : decode cX6_of 166 = .ok (.bipush (-2), 2) := by decide +kernel
theorem dX6_of_168 : decode cX6_of 168 = .ok (.ireturn, 1) := by decide +kernel
set_option maxRecDepth 20000 in
theorem ggX6_ofLoad_X2_loadAt : GoodIn wsX6_ofLoad wsX2_loadAt := goodIn_r _ [9, 10, 11, 21, 22, 23, 24, 25, 26, 27] (by decide +kernel) (by decide +kernel)
set_option maxRecDepth 20000 in
theorem gX6_ofLoad_X2_loadAt : GoodIn wsX6_ofLoad (wsV RX6 141 RX2 yX2_loadAt wsX2_loadAt) := goodIn_app (goodIn_of _ (by decide +kernel)) ggX6_ofLoad_X2_loadAt
theorem dX6_ofLoad_0 : decode cX6_ofLoad 0 = .ok (.aload_n 0, 1) := by decide +kernel
theorem dX6_ofLoad_1 : decode cX6_ofLoad 1 = .ok (.getfield 10, 3) := by decide +kernel
theorem dX6_ofLoad_4 : decode cX6_ofLoad 4 = .ok (.iload_n 1, 1) := by decide +kernel
theorem dX6_ofLoad_5 : decode cX6_ofLoad 5 = .ok (.invokevirtual 141, 3) := by decide +kernel
theorem dX6_ofLoad_8 : decode cX6_ofLoad 8 = .ok (.astore_n 3, 1) := by decide +kernel
theorem dX6_ofLoad_9 : decode cX6_ofLoad 9 = .ok (.aload_n 3, 1) := by decide +kernel
theorem dX6_ofLoad_10 : decode cX6_ofLoad 10 = .ok (.ifnonnull 5, 3) := by decide +kernel
theorem dX6_ofLoad_13 : decode cX6_ofLoad 13 = .ok (.iconst (-1), 1) := by decide +kernel
theorem dX6_ofLoad_14 : decode cX6_ofLoad 14 = .ok (.ireturn, 1) := by decide +kernel
theorem dX6_ofLoad_15 : decode cX6_ofLoad 15 = .ok (.iload_n 2, 1) := by decide +kernel
theorem dX6_ofLoad_16 : decode cX6_ofLoad 16 = .ok (.tableswitch 51 0 2 #[28, 33, 38], 28) := by decide +kernel
theorem dX6_ofLoad_44 : decode cX6_ofLoad 44 = .ok (.aload_n 3, 1) := by decide +kernel
theorem dX6_ofLoad_45 : decode cX6_ofLoad 45 = .ok (.getfield 145, 3) := by decide +kernel
theorem dX6_ofLoad_48 : decode cX6_ofLoad 48 = .ok (.ireturn, 1) := by decide +kernel
theorem dX6_ofLoad_49 : decode cX6_ofLoad 49 = .ok (.aload_n 3, 1) := by decide +kernel
theorem dX6_ofLoad_50 : decode cX6_ofLoad 50 = .ok (.getfield 150, 3) := by decide +kernel
theorem dX6_ofLoad_53 : decode cX6_ofLoad 53 = .ok (.ireturn, 1) := by decide +kernel
theorem dX6_ofLoad_54 : decode cX6_ofLoad 54 = .ok (.aload_n 3, 1) := by decide +kernel
theorem dX6_ofLoad_55 : decode cX6_ofLoad 55 = .ok (.getfield 153, 3) := by decide +kernel
theorem dX6_ofLoad_58 : decode cX6_ofLoad 58 = .ok (.ifCond .eq 7, 3) := by decide +kernel
theorem dX6_ofLoad_61 : decode cX6_ofLoad 61 = .ok (.iconst 1, 1) := by decide +kernel
theorem dX6_ofLoad_62 : decode cX6_ofLoad 62 = .ok (.goto 4, 3) := by decide +kernel
theorem dX6_ofLoad_65 : decode cX6_ofLoad 65 = .ok (.iconst 0, 1) := by decide +kernel
theorem dX6_ofLoad_66 : decode cX6_ofLoad 66 = .ok (.ireturn, 1) := by decide +kernel
theorem dX6_ofLoad_67 : decode cX6_ofLoad 67 = .ok (.bipush (-2), 2) := by decide +kernel
theorem dX6_ofLoad_69 : decode cX6_ofLoad 69 = .ok (.ireturn, 1) := by decide +kernel
set_option maxRecDepth 20000 in
theorem ggX6_misses_X2_meterAt : GoodIn wsX6_misses wsX2_meterAt := goodIn_r _ [8, 9, 10, 31, 32, 33, 34, 35, 36, 37] (by decide +kernel) (by decide +kernel)
set_option maxRecDepth 20000 in
theorem gX6_misses_X2_meterAt : GoodIn wsX6_misses (wsV RX6 75 RX2 yX2_meterAt wsX2_meterAt) := goodIn_app (goodIn_of _ (by decide +kernel)) ggX6_misses_X2_meterAt
set_option maxRecDepth 20000 in
theorem ggX6_misses_X4_missed : GoodIn wsX6_misses wsX4_missed := goodIn_r _ [15, 16, 17, 18, 19, 20, 21, 14, 22, 23, 24, 38, 39, 40, 41, 42, 43, 44, 45, 46, 47, 48, 49, 50] (by decide +kernel) (by decide +kernel)
set_option maxRecDepth 20000 in
theorem gX6_misses_X4_missed : GoodIn wsX6_misses (wsV RX6 158 RX4 yX4_missed wsX4_missed) := goodIn_app (goodIn_of _ (by decide +kernel)) ggX6_misses_X4_missed
theorem dX6_misses_0 : decode cX6_misses 0 = .ok (.aload_n 0, 1) := by decide +kernel
theorem dX6_misses_1 : decode cX6_misses 1 = .ok (.getfield 10, 3) := by decide +kernel
theorem dX6_misses_4 : decode cX6_misses 4 = .ok (.iload_n 1, 1) := by decide +kernel
theorem dX6_misses_5 : decode cX6_misses 5 = .ok (.invokevirtual 75, 3) := by decide +kernel
theorem dX6_misses_8 : decode cX6_misses 8 = .ok (.astore_n 2, 1) := by decide +kernel
theorem dX6_misses_9 : decode cX6_misses 9 = .ok (.aload_n 2, 1) := by decide +kernel
theorem dX6_misses_10 : decode cX6_misses 10 = .ok (.ifnonnull 9, 3) := by decide +kernel
theorem dX6_misses_13 : decode cX6_misses 13 = .ok (.ldc2_w 156, 3) := by decide +kernel
theorem dX6_misses_16 : decode cX6_misses 16 = .ok (.goto 11, 3) := by decide +kernel
theorem dX6_misses_19 : decode cX6_misses 19 = .ok (.aload_n 2, 1) := by decide +kernel
theorem dX6_misses_20 : decode cX6_misses 20 = .ok (.invokevirtual 158, 3) := by decide +kernel
theorem dX6_misses_23 : decode cX6_misses 23 = .ok (.ldc2_w 162, 3) := by decide +kernel
theorem dX6_misses_26 : decode cX6_misses 26 = .ok (.ladd, 1) := by decide +kernel
theorem dX6_misses_27 : decode cX6_misses 27 = .ok (.lreturn, 1) := by decide +kernel
set_option maxRecDepth 20000 in
theorem ggX6_fed_X2_meterAt : GoodIn wsX6_fed wsX2_meterAt := goodIn_r _ [6, 7, 8, 23, 24, 25, 26, 27, 28, 29] (by decide +kernel) (by decide +kernel)
set_option maxRecDepth 20000 in
theorem gX6_fed_X2_meterAt : GoodIn wsX6_fed (wsV RX6 75 RX2 yX2_meterAt wsX2_meterAt) := goodIn_app (goodIn_of _ (by decide +kernel)) ggX6_fed_X2_meterAt
set_option maxRecDepth 20000 in
theorem ggX6_fed_X2_fedThrough : GoodIn wsX6_fed wsX2_fedThrough := goodIn_r _ [12, 7, 8, 13, 14, 15, 5, 16, 23, 24, 25, 26, 27, 28, 29, 30, 31, 32, 33, 34, 35, 36, 37, 38, 39, 40, 41, 42] (by decide +kernel) (by decide +kernel)
set_option maxRecDepth 20000 in
theorem gX6_fed_X2_fedThrough : GoodIn wsX6_fed (wsV RX6 164 RX2 yX2_fedThrough wsX2_fedThrough) := goodIn_app (goodIn_of _ (by decide +kernel)) ggX6_fed_X2_fedThrough
theorem dX6_fed_0 : decode cX6_fed 0 = .ok (.aload_n 0, 1) := by decide +kernel
theorem dX6_fed_1 : decode cX6_fed 1 = .ok (.getfield 10, 3) := by decide +kernel
theorem dX6_fed_4 : decode cX6_fed 4 = .ok (.iload_n 1, 1) := by decide +kernel
theorem dX6_fed_5 : decode cX6_fed 5 = .ok (.invokevirtual 75, 3) := by decide +kernel
theorem dX6_fed_8 : decode cX6_fed 8 = .ok (.ifnonnull 7, 3) := by decide +kernel
theorem dX6_fed_11 : decode cX6_fed 11 = .ok (.iconst (-1), 1) := by decide +kernel
theorem dX6_fed_12 : decode cX6_fed 12 = .ok (.goto 11, 3) := by decide +kernel
theorem dX6_fed_15 : decode cX6_fed 15 = .ok (.aload_n 0, 1) := by decide +kernel
theorem dX6_fed_16 : decode cX6_fed 16 = .ok (.getfield 10, 3) := by decide +kernel
theorem dX6_fed_19 : decode cX6_fed 19 = .ok (.iload_n 1, 1) := by decide +kernel
theorem dX6_fed_20 : decode cX6_fed 20 = .ok (.invokevirtual 164, 3) := by decide +kernel
theorem dX6_fed_23 : decode cX6_fed 23 = .ok (.ireturn, 1) := by decide +kernel
set_option maxRecDepth 20000 in
theorem ggX6_count_X6_isNight : GoodIn wsX6_count wsX6_isNight := goodIn_r _ [14] (by decide +kernel) (by decide +kernel)
set_option maxRecDepth 20000 in
theorem gX6_count_X6_isNight : GoodIn wsX6_count (va_wsS RX6 170 yX6_isNight wsX6_isNight) := goodIn_app (goodIn_of _ (by decide +kernel)) ggX6_count_X6_isNight
set_option maxRecDepth 20000 in
theorem ggX6_count_X2_loadsOn : GoodIn wsX6_count wsX2_loadsOn := goodIn_r _ [19, 20, 21, 22, 52, 53, 54, 55, 56, 57, 58, 64, 65, 66] (by decide +kernel) (by decide +kernel)
set_option maxRecDepth 20000 in
theorem gX6_count_X2_loadsOn : GoodIn wsX6_count (wsV RX6 180 RX2 yX2_loadsOn wsX2_loadsOn) := goodIn_app (goodIn_of _ (by decide +kernel)) ggX6_count_X2_loadsOn
set_option maxRecDepth 20000 in
theorem ggX6_count_X2_sealsBroken : GoodIn wsX6_count wsX2_sealsBroken := goodIn_r _ [26, 27, 28, 29, 52, 53, 54, 55, 56, 57, 58, 67, 68, 69, 70, 71, 72, 73, 74, 75, 76, 77, 78, 79] (by decide +kernel) (by decide +kernel)
set_option maxRecDepth 20000 in
theorem gX6_count_X2_sealsBroken : GoodIn wsX6_count (wsV RX6 184 RX2 yX2_sealsBroken wsX2_sealsBroken) := goodIn_app (goodIn_of _ (by decide +kernel)) ggX6_count_X2_sealsBroken
set_option maxRecDepth 20000 in
theorem ggX6_count_X2_allTurns : GoodIn wsX6_count wsX2_allTurns := goodIn_r _ [33, 27, 28, 34, 35, 36, 37, 38, 39, 40, 52, 53, 54, 55, 56, 57, 58, 67, 68, 69, 70, 71, 72, 73, 74, 75, 76, 77, 78, 79] (by decide +kernel) (by decide +kernel)
set_option maxRecDepth 20000 in
theorem gX6_count_X2_allTurns : GoodIn wsX6_count (wsV RX6 187 RX2 yX2_allTurns wsX2_allTurns) := goodIn_app (goodIn_of _ (by decide +kernel)) ggX6_count_X2_allTurns
set_option maxRecDepth 20000 in
theorem ggX6_count_X2_allBilled : GoodIn wsX6_count wsX2_allBilled := goodIn_r _ [44, 27, 28, 45, 52, 53, 54, 55, 56, 57, 58, 67, 68, 69, 70, 71, 72, 73, 74, 75, 76, 77, 78, 79] (by decide +kernel) (by decide +kernel)
set_option maxRecDepth 20000 in
theorem gX6_count_X2_allBilled : GoodIn wsX6_count (wsV RX6 190 RX2 yX2_allBilled wsX2_allBilled) := goodIn_app (goodIn_of _ (by decide +kernel)) ggX6_count_X2_allBilled
theorem dX6_count_0 : decode cX6_count 0 = .ok (.iload_n 1, 1) := by decide +kernel
theorem dX6_count_1 : decode cX6_count 1 = .ok (.tableswitch 242 0 16 #[83, 91, 110, 118, 126, 134, 142, 150, 158, 166, 176, 186, 196, 206, 216, 226, 234], 83) := by decide +kernel
theorem dX6_count_84 : decode cX6_count 84 = .ok (.aload_n 0, 1) := by decide +kernel
theorem dX6_count_85 : decode cX6_count 85 = .ok (.getfield 10, 3) := by decide +kernel
theorem dX6_count_88 : decode cX6_count 88 = .ok (.getfield 167, 3) := by decide +kernel
theorem dX6_count_91 : decode cX6_count 91 = .ok (.ireturn, 1) := by decide +kernel
theorem dX6_count_92 : decode cX6_count 92 = .ok (.aload_n 0, 1) := by decide +kernel
theorem dX6_count_93 : decode cX6_count 93 = .ok (.getfield 10, 3) := by decide +kernel
theorem dX6_count_96 : decode cX6_count 96 = .ok (.getfield 167, 3) := by decide +kernel
theorem dX6_count_99 : decode cX6_count 99 = .ok (.invokestatic 170, 3) := by decide +kernel
theorem dX6_count_102 : decode cX6_count 102 = .ok (.ifCond .eq 7, 3) := by decide +kernel
theorem dX6_count_105 : decode cX6_count 105 = .ok (.iconst 1, 1) := by decide +kernel
theorem dX6_count_106 : decode cX6_count 106 = .ok (.goto 4, 3) := by decide +kernel
theorem dX6_count_109 : decode cX6_count 109 = .ok (.iconst 0, 1) := by decide +kernel
theorem dX6_count_110 : decode cX6_count 110 = .ok (.ireturn, 1) := by decide +kernel
theorem dX6_count_111 : decode cX6_count 111 = .ok (.aload_n 0, 1) := by decide +kernel
theorem dX6_count_112 : decode cX6_count 112 = .ok (.getfield 10, 3) := by decide +kernel
theorem dX6_count_115 : decode cX6_count 115 = .ok (.getfield 174, 3) := by decide +kernel
theorem dX6_count_118 : decode cX6_count 118 = .ok (.ireturn, 1) := by decide +kernel
theorem dX6_count_119 : decode cX6_count 119 = .ok (.aload_n 0, 1) := by decide +kernel
theorem dX6_count_120 : decode cX6_count 120 = .ok (.getfield 10, 3) := by decide +kernel
theorem dX6_count_123 : decode cX6_count 123 = .ok (.getfield 177, 3) := by decide +kernel
theorem dX6_count_126 : decode cX6_count 126 = .ok (.ireturn, 1) := by decide +kernel
theorem dX6_count_127 : decode cX6_count 127 = .ok (.aload_n 0, 1) := by decide +kernel
theorem dX6_count_128 : decode cX6_count 128 = .ok (.getfield 10, 3) := by decide +kernel
theorem dX6_count_131 : decode cX6_count 131 = .ok (.invokevirtual 180, 3) := by decide +kernel
theorem dX6_count_134 : decode cX6_count 134 = .ok (.ireturn, 1) := by decide +kernel
theorem dX6_count_135 : decode cX6_count 135 = .ok (.aload_n 0, 1) := by decide +kernel
theorem dX6_count_136 : decode cX6_count 136 = .ok (.getfield 10, 3) := by decide +kernel
theorem dX6_count_139 : decode cX6_count 139 = .ok (.invokevirtual 184, 3) := by decide +kernel
theorem dX6_count_142 : decode cX6_count 142 = .ok (.ireturn, 1) := by decide +kernel
theorem dX6_count_143 : decode cX6_count 143 = .ok (.aload_n 0, 1) := by decide +kernel
theorem dX6_count_144 : decode cX6_count 144 = .ok (.getfield 10, 3) := by decide +kernel
theorem dX6_count_147 : decode cX6_count 147 = .ok (.invokevirtual 187, 3) := by decide +kernel
theorem dX6_count_150 : decode cX6_count 150 = .ok (.ireturn, 1) := by decide +kernel
theorem dX6_count_151 : decode cX6_count 151 = .ok (.aload_n 0, 1) := by decide +kernel
theorem dX6_count_152 : decode cX6_count 152 = .ok (.getfield 10, 3) := by decide +kernel
theorem dX6_count_155 : decode cX6_count 155 = .ok (.invokevirtual 190, 3) := by decide +kernel
theorem dX6_count_158 : decode cX6_count 158 = .ok (.ireturn, 1) := by decide +kernel
theorem dX6_count_159 : decode cX6_count 159 = .ok (.aload_n 0, 1) := by decide +kernel
theorem dX6_count_160 : decode cX6_count 160 = .ok (.getfield 10, 3) := by decide +kernel
theorem dX6_count_163 : decode cX6_count 163 = .ok (.getfield 193, 3) := by decide +kernel
theorem dX6_count_166 : decode cX6_count 166 = .ok (.ireturn, 1) := by decide +kernel
theorem dX6_count_167 : decode cX6_count 167 = .ok (.aload_n 0, 1) := by decide +kernel
theorem dX6_count_168 : decode cX6_count 168 = .ok (.getfield 10, 3) := by decide +kernel
theorem dX6_count_171 : decode cX6_count 171 = .ok (.getfield 131, 3) := by decide +kernel
theorem dX6_count_174 : decode cX6_count 174 = .ok (.iconst 0, 1) := by decide +kernel
theorem dX6_count_175 : decode cX6_count 175 = .ok (.iaload, 1) := by decide +kernel
theorem dX6_count_176 : decode cX6_count 176 = .ok (.ireturn, 1) := by decide +kernel
theorem dX6_count_177 : decode cX6_count 177 = .ok (.aload_n 0, 1) := by decide +kernel
theorem dX6_count_178 : decode cX6_count 178 = .ok (.getfield 10, 3) := by decide +kernel
theorem dX6_count_181 : decode cX6_count 181 = .ok (.getfield 131, 3) := by decide +kernel
theorem dX6_count_184 : decode cX6_count 184 = .ok (.iconst 1, 1) := by decide +kernel
theorem dX6_count_185 : decode cX6_count 185 = .ok (.iaload, 1) := by decide +kernel
theorem dX6_count_186 : decode cX6_count 186 = .ok (.ireturn, 1) := by decide +kernel
theorem dX6_count_187 : decode cX6_count 187 = .ok (.aload_n 0, 1) := by decide +kernel
theorem dX6_count_188 : decode cX6_count 188 = .ok (.getfield 10, 3) := by decide +kernel
theorem dX6_count_191 : decode cX6_count 191 = .ok (.getfield 131, 3) := by decide +kernel
theorem dX6_count_194 : decode cX6_count 194 = .ok (.iconst 2, 1) := by decide +kernel
theorem dX6_count_195 : decode cX6_count 195 = .ok (.iaload, 1) := by decide +kernel
theorem dX6_count_196 : decode cX6_count 196 = .ok (.ireturn, 1) := by decide +kernel
theorem dX6_count_197 : decode cX6_count 197 = .ok (.aload_n 0, 1) := by decide +kernel
theorem dX6_count_198 : decode cX6_count 198 = .ok (.getfield 10, 3) := by decide +kernel
theorem dX6_count_201 : decode cX6_count 201 = .ok (.getfield 131, 3) := by decide +kernel
theorem dX6_count_204 : decode cX6_count 204 = .ok (.iconst 3, 1) := by decide +kernel
theorem dX6_count_205 : decode cX6_count 205 = .ok (.iaload, 1) := by decide +kernel
theorem dX6_count_206 : decode cX6_count 206 = .ok (.ireturn, 1) := by decide +kernel
theorem dX6_count_207 : decode cX6_count 207 = .ok (.aload_n 0, 1) := by decide +kernel
theorem dX6_count_208 : decode cX6_count 208 = .ok (.getfield 10, 3) := by decide +kernel
theorem dX6_count_211 : decode cX6_count 211 = .ok (.getfield 131, 3) := by decide +kernel
theorem dX6_count_214 : decode cX6_count 214 = .ok (.iconst 4, 1) := by decide +kernel
theorem dX6_count_215 : decode cX6_count 215 = .ok (.iaload, 1) := by decide +kernel
theorem dX6_count_216 : decode cX6_count 216 = .ok (.ireturn, 1) := by decide +kernel
theorem dX6_count_217 : decode cX6_count 217 = .ok (.aload_n 0, 1) := by decide +kernel
theorem dX6_count_218 : decode cX6_count 218 = .ok (.getfield 10, 3) := by decide +kernel
theorem dX6_count_221 : decode cX6_count 221 = .ok (.getfield 131, 3) := by decide +kernel
theorem dX6_count_224 : decode cX6_count 224 = .ok (.iconst 5, 1) := by decide +kernel
theorem dX6_count_225 : decode cX6_count 225 = .ok (.iaload, 1) := by decide +kernel
theorem dX6_count_226 : decode cX6_count 226 = .ok (.ireturn, 1) := by decide +kernel
theorem dX6_count_227 : decode cX6_count 227 = .ok (.aload_n 0, 1) := by decide +kernel
theorem dX6_count_228 : decode cX6_count 228 = .ok (.getfield 26, 3) := by decide +kernel
theorem dX6_count_231 : decode cX6_count 231 = .ok (.getfield 104, 3) := by decide +kernel
theorem dX6_count_234 : decode cX6_count 234 = .ok (.ireturn, 1) := by decide +kernel
theorem dX6_count_235 : decode cX6_count 235 = .ok (.aload_n 0, 1) := by decide +kernel
theorem dX6_count_236 : decode cX6_count 236 = .ok (.getfield 33, 3) := by decide +kernel
theorem dX6_count_239 : decode cX6_count 239 = .ok (.getfield 196, 3) := by decide +kernel
theorem dX6_count_242 : decode cX6_count 242 = .ok (.ireturn, 1) := by decide +kernel
theorem dX6_count_243 : decode cX6_count 243 = .ok (.bipush (-2), 2) := by decide +kernel
theorem dX6_count_245 : decode cX6_count 245 = .ok (.ireturn, 1) := by decide +kernel
set_option maxRecDepth 20000 in
theorem ggX6_bill_X2_meterAt : GoodIn wsX6_bill wsX2_meterAt := goodIn_r _ [6, 7, 8, 33, 34, 35, 36, 37, 38, 39] (by decide +kernel) (by decide +kernel)
set_option maxRecDepth 20000 in
theorem gX6_bill_X2_meterAt : GoodIn wsX6_bill (wsV RX6 75 RX2 yX2_meterAt wsX2_meterAt) := goodIn_app (goodIn_of _ (by decide +kernel)) ggX6_bill_X2_meterAt
set_option maxRecDepth 20000 in
theorem ggX6_bill_X2_owedAt : GoodIn wsX6_bill wsX2_owedAt := goodIn_r _ [12, 13, 14, 15, 16, 17, 18, 19, 20, 21, 22, 23, 24, 25, 26, 33, 34, 35, 36, 37, 38, 39, 40, 41, 42, 43, 44, 45, 46, 47, 48, 49, 50, 51, 52] (by decide +kernel) (by decide +kernel)
set_option maxRecDepth 20000 in
theorem gX6_bill_X2_owedAt : GoodIn wsX6_bill (wsV RX6 199 RX2 yX2_owedAt wsX2_owedAt) := goodIn_app (goodIn_of _ (by decide +kernel)) ggX6_bill_X2_owedAt
theorem dX6_bill_0 : decode cX6_bill 0 = .ok (.aload_n 0, 1) := by decide +kernel
theorem dX6_bill_1 : decode cX6_bill 1 = .ok (.getfield 10, 3) := by decide +kernel
theorem dX6_bill_4 : decode cX6_bill 4 = .ok (.iload_n 1, 1) := by decide +kernel
theorem dX6_bill_5 : decode cX6_bill 5 = .ok (.invokevirtual 75, 3) := by decide +kernel
theorem dX6_bill_8 : decode cX6_bill 8 = .ok (.astore_n 2, 1) := by decide +kernel
theorem dX6_bill_9 : decode cX6_bill 9 = .ok (.aload_n 2, 1) := by decide +kernel
theorem dX6_bill_10 : decode cX6_bill 10 = .ok (.ifnonnull 7, 3) := by decide +kernel
theorem dX6_bill_13 : decode cX6_bill 13 = .ok (.iconst (-1), 1) := by decide +kernel
theorem dX6_bill_14 : decode cX6_bill 14 = .ok (.goto 11, 3) := by decide +kernel
theorem dX6_bill_17 : decode cX6_bill 17 = .ok (.aload_n 0, 1) := by decide +kernel
theorem dX6_bill_18 : decode cX6_bill 18 = .ok (.getfield 10, 3) := by decide +kernel
theorem dX6_bill_21 : decode cX6_bill 21 = .ok (.aload_n 2, 1) := by decide +kernel
theorem dX6_bill_22 : decode cX6_bill 22 = .ok (.invokevirtual 199, 3) := by decide +kernel
theorem dX6_bill_25 : decode cX6_bill 25 = .ok (.ireturn, 1) := by decide +kernel
set_option maxRecDepth 20000 in
theorem ggX6_turnsIn_X2_meterAt : GoodIn wsX6_turnsIn wsX2_meterAt := goodIn_r _ [7, 8, 9, 72, 73, 74, 75, 76, 77, 78] (by decide +kernel) (by decide +kernel)
set_option maxRecDepth 20000 in
theorem gX6_turnsIn_X2_meterAt : GoodIn wsX6_turnsIn (wsV RX6 75 RX2 yX2_meterAt wsX2_meterAt) := goodIn_app (goodIn_of _ (by decide +kernel)) ggX6_turnsIn_X2_meterAt
set_option maxRecDepth 20000 in
theorem ggX6_turnsIn_X4_copyFrom : GoodIn wsX6_turnsIn wsX4_copyFrom := goodIn_r _ [14, 15, 16, 17, 18, 19, 20, 21, 22, 23, 24, 25, 26, 27, 79, 80, 81, 82, 83, 84, 85, 86, 87, 88, 89, 90, 91] (by decide +kernel) (by decide +kernel)
set_option maxRecDepth 20000 in
theorem gX6_turnsIn_X4_copyFrom : GoodIn wsX6_turnsIn (wsV RX6 203 RX4 yX4_copyFrom wsX4_copyFrom) := goodIn_app (goodIn_of _ (by decide +kernel)) ggX6_turnsIn_X4_copyFrom
set_option maxRecDepth 20000 in
theorem ggX6_turnsIn_X2_powerOf : GoodIn wsX6_turnsIn wsX2_powerOf := goodIn_r _ [31, 32, 33, 34, 35, 36, 37, 38, 39, 6, 40, 8, 9, 41, 42, 43, 44, 72, 73, 74, 75, 76, 77, 78, 92, 93, 94, 79, 80, 81, 82, 83, 84, 85, 86, 87, 88, 89, 90, 91] (by decide +kernel) (by decide +kernel)
set_option maxRecDepth 20000 in
theorem gX6_turnsIn_X2_powerOf : GoodIn wsX6_turnsIn (wsV RX6 113 RX2 yX2_powerOf wsX2_powerOf) := goodIn_app (goodIn_of _ (by decide +kernel)) ggX6_turnsIn_X2_powerOf
set_option maxRecDepth 20000 in
theorem ggX6_turnsIn_X2_minutesToTurn : GoodIn wsX6_turnsIn wsX2_minutesToTurn := goodIn_r _ [48, 49, 50, 51, 52, 53, 54, 55, 56, 13, 57, 23, 16, 20, 19, 18, 17, 58, 59, 60, 61, 62, 63, 64, 65, 25, 72, 73, 74, 75, 76, 77, 78, 79, 80, 81, 82, 83, 84, 85, 86, 87, 88, 89, 90, 91] (by decide +kernel) (by decide +kernel)
set_option maxRecDepth 20000 in
theorem gX6_turnsIn_X2_minutesToTurn : GoodIn wsX6_turnsIn (wsV RX6 207 RX2 yX2_minutesToTurn wsX2_minutesToTurn) := goodIn_app (goodIn_of _ (by decide +kernel)) ggX6_turnsIn_X2_minutesToTurn
theorem dX6_turnsIn_0 : decode cX6_turnsIn 0 = .ok (.aload_n 0, 1) := by decide +kernel
theorem dX6_turnsIn_1 : decode cX6_turnsIn 1 = .ok (.getfield 10, 3) := by decide +kernel
theorem dX6_turnsIn_4 : decode cX6_turnsIn 4 = .ok (.iload_n 1, 1) := by decide +kernel
theorem dX6_turnsIn_5 : decode cX6_turnsIn 5 = .ok (.invokevirtual 75, 3) := by decide +kernel
theorem dX6_turnsIn_8 : decode cX6_turnsIn 8 = .ok (.astore_n 2, 1) := by decide +kernel
theorem dX6_turnsIn_9 : decode cX6_turnsIn 9 = .ok (.aload_n 2, 1) := by decide +kernel
theorem dX6_turnsIn_10 : decode cX6_turnsIn 10 = .ok (.ifnonnull 5, 3) := by decide +kernel
theorem dX6_turnsIn_13 : decode cX6_turnsIn 13 = .ok (.iconst (-1), 1) := by decide +kernel
theorem dX6_turnsIn_14 : decode cX6_turnsIn 14 = .ok (.ireturn, 1) := by decide +kernel
theorem dX6_turnsIn_15 : decode cX6_turnsIn 15 = .ok (.aload_n 0, 1) := by decide +kernel
theorem dX6_turnsIn_16 : decode cX6_turnsIn 16 = .ok (.getfield 19, 3) := by decide +kernel
theorem dX6_turnsIn_19 : decode cX6_turnsIn 19 = .ok (.aload_n 2, 1) := by decide +kernel
theorem dX6_turnsIn_20 : decode cX6_turnsIn 20 = .ok (.invokevirtual 203, 3) := by decide +kernel
theorem dX6_turnsIn_23 : decode cX6_turnsIn 23 = .ok (.aload_n 0, 1) := by decide +kernel
theorem dX6_turnsIn_24 : decode cX6_turnsIn 24 = .ok (.getfield 10, 3) := by decide +kernel
theorem dX6_turnsIn_27 : decode cX6_turnsIn 27 = .ok (.aload_n 0, 1) := by decide +kernel
theorem dX6_turnsIn_28 : decode cX6_turnsIn 28 = .ok (.getfield 19, 3) := by decide +kernel
theorem dX6_turnsIn_31 : decode cX6_turnsIn 31 = .ok (.aload_n 0, 1) := by decide +kernel
theorem dX6_turnsIn_32 : decode cX6_turnsIn 32 = .ok (.getfield 10, 3) := by decide +kernel
theorem dX6_turnsIn_35 : decode cX6_turnsIn 35 = .ok (.iload_n 1, 1) := by decide +kernel
theorem dX6_turnsIn_36 : decode cX6_turnsIn 36 = .ok (.invokevirtual 113, 3) := by decide +kernel
theorem dX6_turnsIn_39 : decode cX6_turnsIn 39 = .ok (.invokevirtual 207, 3) := by decide +kernel
theorem dX6_turnsIn_42 : decode cX6_turnsIn 42 = .ok (.ireturn, 1) := by decide +kernel
set_option maxRecDepth 20000 in
theorem ggX6_wouldTurn_X2_meterAt : GoodIn wsX6_wouldTurn wsX2_meterAt := goodIn_r _ [9, 10, 11, 98, 99, 100, 101, 102, 103, 104] (by decide +kernel) (by decide +kernel)
set_option maxRecDepth 20000 in
theorem gX6_wouldTurn_X2_meterAt : GoodIn wsX6_wouldTurn (wsV RX6 75 RX2 yX2_meterAt wsX2_meterAt) := goodIn_app (goodIn_of _ (by decide +kernel)) ggX6_wouldTurn_X2_meterAt
set_option maxRecDepth 20000 in
theorem ggX6_wouldTurn_X4_copyFrom : GoodIn wsX6_wouldTurn wsX4_copyFrom := goodIn_r _ [16, 17, 18, 19, 20, 21, 22, 23, 24, 25, 26, 27, 28, 29, 85, 86, 87, 88, 89, 90, 91, 92, 93, 94, 95, 96, 97] (by decide +kernel) (by decide +kernel)
set_option maxRecDepth 20000 in
theorem gX6_wouldTurn_X4_copyFrom : GoodIn wsX6_wouldTurn (wsV RX6 203 RX4 yX4_copyFrom wsX4_copyFrom) := goodIn_app (goodIn_of _ (by decide +kernel)) ggX6_wouldTurn_X4_copyFrom
set_option maxRecDepth 20000 in
theorem ggX6_wouldTurn_X2_powerOf : GoodIn wsX6_wouldTurn wsX2_powerOf := goodIn_r _ [33, 34, 35, 36, 37, 38, 39, 40, 41, 8, 42, 10, 11, 43, 44, 45, 46, 98, 99, 100, 101, 102, 103, 104, 105, 106, 107, 85, 86, 87, 88, 89, 90, 91, 92, 93, 94, 95, 96, 97] (by decide +kernel) (by decide +kernel)
set_option maxRecDepth 20000 in
theorem gX6_wouldTurn_X2_powerOf : GoodIn wsX6_wouldTurn (wsV RX6 113 RX2 yX2_powerOf wsX2_powerOf) := goodIn_app (goodIn_of _ (by decide +kernel)) ggX6_wouldTurn_X2_powerOf
set_option maxRecDepth 20000 in
theorem ggX6_wouldTurn_X2_runDisc : GoodIn wsX6_wouldTurn wsX2_runDisc := goodIn_r _ [50, 51, 52, 53, 54, 55, 56, 57, 58, 59, 60, 61, 62, 63, 64, 65, 15, 66, 20, 67, 68, 69, 70, 71, 72, 73, 25, 18, 22, 21, 19, 74, 75, 76, 77, 78, 27, 98, 99, 100, 101, 102, 103, 104, 85, 86, 87, 88, 89, 90, 91, 92, 93, 94, 95, 96, 97] (by decide +kernel) (by decide +kernel)
set_option maxRecDepth 20000 in
theorem gX6_wouldTurn_X2_runDisc : GoodIn wsX6_wouldTurn (wsV RX6 211 RX2 yX2_runDisc wsX2_runDisc) := goodIn_app (goodIn_of _ (by decide +kernel)) ggX6_wouldTurn_X2_runDisc
theorem dX6_wouldTurn_0 : decode cX6_wouldTurn 0 = .ok (.aload_n 0, 1) := by decide +kernel
theorem dX6_wouldTurn_1 : decode cX6_wouldTurn 1 = .ok (.getfield 10, 3) := by decide +kernel
theorem dX6_wouldTurn_4 : decode cX6_wouldTurn 4 = .ok (.iload_n 1, 1) := by decide +kernel
theorem dX6_wouldTurn_5 : decode cX6_wouldTurn 5 = .ok (.invokevirtual 75, 3) := by decide +kernel
theorem dX6_wouldTurn_8 : decode cX6_wouldTurn 8 = .ok (.astore 4, 2) := by decide +kernel
theorem dX6_wouldTurn_10 : decode cX6_wouldTurn 10 = .ok (.aload 4, 2) := by decide +kernel
theorem dX6_wouldTurn_12 : decode cX6_wouldTurn 12 = .ok (.ifnonnull 5, 3) := by decide +kernel
theorem dX6_wouldTurn_15 : decode cX6_wouldTurn 15 = .ok (.iconst (-1), 1) := by decide +kernel
theorem dX6_wouldTurn_16 : decode cX6_wouldTurn 16 = .ok (.ireturn, 1) := by decide +kernel
theorem dX6_wouldTurn_17 : decode cX6_wouldTurn 17 = .ok (.iload_n 2, 1) := by decide +kernel
theorem dX6_wouldTurn_18 : decode cX6_wouldTurn 18 = .ok (.iconst 1, 1) := by decide +kernel
theorem dX6_wouldTurn_19 : decode cX6_wouldTurn 19 = .ok (.if_icmp .lt 19, 3) := by decide +kernel
theorem dX6_wouldTurn_22 : decode cX6_wouldTurn 22 = .ok (.iload_n 2, 1) := by decide +kernel
theorem dX6_wouldTurn_23 : decode cX6_wouldTurn 23 = .ok (.sipush 1440, 3) := by decide +kernel
theorem dX6_wouldTurn_26 : decode cX6_wouldTurn 26 = .ok (.if_icmp .gt 12, 3) := by decide +kernel
theorem dX6_wouldTurn_29 : decode cX6_wouldTurn 29 = .ok (.iload_n 3, 1) := by decide +kernel
theorem dX6_wouldTurn_30 : decode cX6_wouldTurn 30 = .ok (.ifCond .lt 8, 3) := by decide +kernel
theorem dX6_wouldTurn_33 : decode cX6_wouldTurn 33 = .ok (.iload_n 3, 1) := by decide +kernel
theorem dX6_wouldTurn_34 : decode cX6_wouldTurn 34 = .ok (.iconst 1, 1) := by decide +kernel
theorem dX6_wouldTurn_35 : decode cX6_wouldTurn 35 = .ok (.if_icmp .le 6, 3) := by decide +kernel
theorem dX6_wouldTurn_38 : decode cX6_wouldTurn 38 = .ok (.bipush (-2), 2) := by decide +kernel
theorem dX6_wouldTurn_40 : decode cX6_wouldTurn 40 = .ok (.ireturn, 1) := by decide +kernel
theorem dX6_wouldTurn_41 : decode cX6_wouldTurn 41 = .ok (.aload_n 0, 1) := by decide +kernel
theorem dX6_wouldTurn_42 : decode cX6_wouldTurn 42 = .ok (.getfield 19, 3) := by decide +kernel
theorem dX6_wouldTurn_45 : decode cX6_wouldTurn 45 = .ok (.aload 4, 2) := by decide +kernel
theorem dX6_wouldTurn_47 : decode cX6_wouldTurn 47 = .ok (.invokevirtual 203, 3) := by decide +kernel
theorem dX6_wouldTurn_50 : decode cX6_wouldTurn 50 = .ok (.aload_n 0, 1) := by decide +kernel
theorem dX6_wouldTurn_51 : decode cX6_wouldTurn 51 = .ok (.getfield 10, 3) := by decide +kernel
theorem dX6_wouldTurn_54 : decode cX6_wouldTurn 54 = .ok (.aload_n 0, 1) := by decide +kernel
theorem dX6_wouldTurn_55 : decode cX6_wouldTurn 55 = .ok (.getfield 19, 3) := by decide +kernel
theorem dX6_wouldTurn_58 : decode cX6_wouldTurn 58 = .ok (.aload_n 0, 1) := by decide +kernel
theorem dX6_wouldTurn_59 : decode cX6_wouldTurn 59 = .ok (.getfield 10, 3) := by decide +kernel
theorem dX6_wouldTurn_62 : decode cX6_wouldTurn 62 = .ok (.iload_n 1, 1) := by decide +kernel
theorem dX6_wouldTurn_63 : decode cX6_wouldTurn 63 = .ok (.invokevirtual 113, 3) := by decide +kernel
theorem dX6_wouldTurn_66 : decode cX6_wouldTurn 66 = .ok (.iload_n 2, 1) := by decide +kernel
theorem dX6_wouldTurn_67 : decode cX6_wouldTurn 67 = .ok (.invokevirtual 211, 3) := by decide +kernel
theorem dX6_wouldTurn_70 : decode cX6_wouldTurn 70 = .ok (.pop, 1) := by decide +kernel
theorem dX6_wouldTurn_71 : decode cX6_wouldTurn 71 = .ok (.iload_n 3, 1) := by decide +kernel
theorem dX6_wouldTurn_72 : decode cX6_wouldTurn 72 = .ok (.iconst 1, 1) := by decide +kernel
theorem dX6_wouldTurn_73 : decode cX6_wouldTurn 73 = .ok (.if_icmp .ne 19, 3) := by decide +kernel
theorem dX6_wouldTurn_76 : decode cX6_wouldTurn 76 = .ok (.aload_n 0, 1) := by decide +kernel
theorem dX6_wouldTurn_77 : decode cX6_wouldTurn 77 = .ok (.getfield 19, 3) := by decide +kernel
theorem dX6_wouldTurn_80 : decode cX6_wouldTurn 80 = .ok (.getfield 94, 3) := by decide +kernel
theorem dX6_wouldTurn_83 : decode cX6_wouldTurn 83 = .ok (.aload 4, 2) := by decide +kernel
theorem dX6_wouldTurn_85 : decode cX6_wouldTurn 85 = .ok (.getfield 94, 3) := by decide +kernel
theorem dX6_wouldTurn_88 : decode cX6_wouldTurn 88 = .ok (.isub, 1) := by decide +kernel
theorem dX6_wouldTurn_89 : decode cX6_wouldTurn 89 = .ok (.goto 16, 3) := by decide +kernel
theorem dX6_wouldTurn_92 : decode cX6_wouldTurn 92 = .ok (.aload_n 0, 1) := by decide +kernel
theorem dX6_wouldTurn_93 : decode cX6_wouldTurn 93 = .ok (.getfield 19, 3) := by decide +kernel
theorem dX6_wouldTurn_96 : decode cX6_wouldTurn 96 = .ok (.getfield 86, 3) := by decide +kernel
theorem dX6_wouldTurn_99 : decode cX6_wouldTurn 99 = .ok (.aload 4, 2) := by decide +kernel
theorem dX6_wouldTurn_101 : decode cX6_wouldTurn 101 = .ok (.getfield 86, 3) := by decide +kernel
theorem dX6_wouldTurn_104 : decode cX6_wouldTurn 104 = .ok (.isub, 1) := by decide +kernel
theorem dX6_wouldTurn_105 : decode cX6_wouldTurn 105 = .ok (.ireturn, 1) := by decide +kernel
set_option maxRecDepth 20000 in
theorem ggX6_worst_X2_mostMissing : GoodIn wsX6_worst wsX2_mostMissing := goodIn_r _ [6, 7, 8, 9, 10, 11, 12, 13, 14, 15, 16, 17, 18, 19, 20, 21, 22, 29, 30, 31, 32, 33, 34, 35, 36, 37, 38, 39, 40, 41, 42, 43, 44, 45, 46, 47, 48] (by decide +kernel) (by decide +kernel)
set_option maxRecDepth 20000 in
theorem gX6_worst_X2_mostMissing : GoodIn wsX6_worst (wsV RX6 215 RX2 yX2_mostMissing wsX2_mostMissing) := goodIn_app (goodIn_of _ (by decide +kernel)) ggX6_worst_X2_mostMissing
theorem dX6_worst_0 : decode cX6_worst 0 = .ok (.aload_n 0, 1) := by decide +kernel
theorem dX6_worst_1 : decode cX6_worst 1 = .ok (.getfield 10, 3) := by decide +kernel
theorem dX6_worst_4 : decode cX6_worst 4 = .ok (.invokevirtual 215, 3) := by decide +kernel
theorem dX6_worst_7 : decode cX6_worst 7 = .ok (.ireturn, 1) := by decide +kernel
set_option maxRecDepth 20000 in
theorem ggX6_lags_X2_meterAt : GoodIn wsX6_lags wsX2_meterAt := goodIn_r _ [7, 8, 9, 28, 29, 30, 31, 32, 33, 34] (by decide +kernel) (by decide +kernel)
set_option maxRecDepth 20000 in
theorem gX6_lags_X2_meterAt : GoodIn wsX6_lags (wsV RX6 75 RX2 yX2_meterAt wsX2_meterAt) := goodIn_app (goodIn_of _ (by decide +kernel)) ggX6_lags_X2_meterAt
set_option maxRecDepth 20000 in
theorem ggX6_lags_X2_turnsBehind : GoodIn wsX6_lags wsX2_turnsBehind := goodIn_r _ [13, 8, 9, 14, 15, 16, 17, 18, 19, 20, 21, 28, 29, 30, 31, 32, 33, 34, 35, 36, 37, 38, 39, 40, 41, 42, 43, 44, 45, 46, 47] (by decide +kernel) (by decide +kernel)
set_option maxRecDepth 20000 in
theorem gX6_lags_X2_turnsBehind : GoodIn wsX6_lags (wsV RX6 218 RX2 yX2_turnsBehind wsX2_turnsBehind) := goodIn_app (goodIn_of _ (by decide +kernel)) ggX6_lags_X2_turnsBehind
theorem dX6_lags_0 : decode cX6_lags 0 = .ok (.aload_n 0, 1) := by decide +kernel
theorem dX6_lags_1 : decode cX6_lags 1 = .ok (.getfield 10, 3) := by decide +kernel
theorem dX6_lags_4 : decode cX6_lags 4 = .ok (.iload_n 1, 1) := by decide +kernel
theorem dX6_lags_5 : decode cX6_lags 5 = .ok (.invokevirtual 75, 3) := by decide +kernel
theorem dX6_lags_8 : decode cX6_lags 8 = .ok (.ifnonnull 7, 3) := by decide +kernel
theorem dX6_lags_11 : decode cX6_lags 11 = .ok (.iconst (-1), 1) := by decide +kernel
theorem dX6_lags_12 : decode cX6_lags 12 = .ok (.goto 14, 3) := by decide +kernel
theorem dX6_lags_15 : decode cX6_lags 15 = .ok (.aload_n 0, 1) := by decide +kernel
theorem dX6_lags_16 : decode cX6_lags 16 = .ok (.getfield 10, 3) := by decide +kernel
theorem dX6_lags_19 : decode cX6_lags 19 = .ok (.iload_n 1, 1) := by decide +kernel
theorem dX6_lags_20 : decode cX6_lags 20 = .ok (.invokevirtual 218, 3) := by decide +kernel
theorem dX6_lags_23 : decode cX6_lags 23 = .ok (.ldc 221, 2) := by decide +kernel
theorem dX6_lags_25 : decode cX6_lags 25 = .ok (.iadd, 1) := by decide +kernel
theorem dX6_lags_26 : decode cX6_lags 26 = .ok (.ireturn, 1) := by decide +kernel
set_option maxRecDepth 20000 in
theorem ggX6_put_X5_signsIn : GoodIn wsX6_put wsX5_signsIn := goodIn_r _ [6, 7, 8, 5, 9, 10] (by decide +kernel) (by decide +kernel)
set_option maxRecDepth 20000 in
theorem gX6_put_X5_signsIn : GoodIn wsX6_put (va_wsS RX6 222 yX5_signsIn wsX5_signsIn) := goodIn_app (goodIn_of _ (by decide +kernel)) ggX6_put_X5_signsIn
set_option maxRecDepth 20000 in
theorem ggX6_put_X5_signOf : GoodIn wsX6_put wsX5_signOf := goodIn_r _ [9, 10] (by decide +kernel) (by decide +kernel)
set_option maxRecDepth 20000 in
theorem gX6_put_X5_signOf : GoodIn wsX6_put (va_wsS RX6 226 yX5_signOf wsX5_signOf) := goodIn_app (goodIn_of _ (by decide +kernel)) ggX6_put_X5_signOf
set_option maxRecDepth 20000 in
theorem ggX6_put_X5_append : GoodIn wsX6_put wsX5_append := goodIn_r _ [15, 16, 17, 24, 25] (by decide +kernel) (by decide +kernel)
set_option maxRecDepth 20000 in
theorem gX6_put_X5_append : GoodIn wsX6_put (wsV RX6 82 RX5 yX5_append wsX5_append) := goodIn_app (goodIn_of _ (by decide +kernel)) ggX6_put_X5_append
theorem dX6_put_0 : decode cX6_put 0 = .ok (.lload_n 1, 1) := by decide +kernel
theorem dX6_put_1 : decode cX6_put 1 = .ok (.invokestatic 222, 3) := by decide +kernel
theorem dX6_put_4 : decode cX6_put 4 = .ok (.istore_n 3, 1) := by decide +kernel
theorem dX6_put_5 : decode cX6_put 5 = .ok (.iload_n 3, 1) := by decide +kernel
theorem dX6_put_6 : decode cX6_put 6 = .ok (.ifCond .ne 6, 3) := by decide +kernel
theorem dX6_put_9 : decode cX6_put 9 = .ok (.bipush (-2), 2) := by decide +kernel
theorem dX6_put_11 : decode cX6_put 11 = .ok (.ireturn, 1) := by decide +kernel
theorem dX6_put_12 : decode cX6_put 12 = .ok (.aload_n 0, 1) := by decide +kernel
theorem dX6_put_13 : decode cX6_put 13 = .ok (.getfield 26, 3) := by decide +kernel
theorem dX6_put_16 : decode cX6_put 16 = .ok (.getfield 104, 3) := by decide +kernel
theorem dX6_put_19 : decode cX6_put 19 = .ok (.iload_n 3, 1) := by decide +kernel
theorem dX6_put_20 : decode cX6_put 20 = .ok (.iadd, 1) := by decide +kernel
theorem dX6_put_21 : decode cX6_put 21 = .ok (.bipush 80, 2) := by decide +kernel
theorem dX6_put_23 : decode cX6_put 23 = .ok (.if_icmp .le 6, 3) := by decide +kernel
theorem dX6_put_26 : decode cX6_put 26 = .ok (.bipush (-4), 2) := by decide +kernel
theorem dX6_put_28 : decode cX6_put 28 = .ok (.ireturn, 1) := by decide +kernel
theorem dX6_put_29 : decode cX6_put 29 = .ok (.iload_n 3, 1) := by decide +kernel
theorem dX6_put_30 : decode cX6_put 30 = .ok (.iconst 1, 1) := by decide +kernel
theorem dX6_put_31 : decode cX6_put 31 = .ok (.isub, 1) := by decide +kernel
theorem dX6_put_32 : decode cX6_put 32 = .ok (.istore 4, 2) := by decide +kernel
theorem dX6_put_34 : decode cX6_put 34 = .ok (.iload 4, 2) := by decide +kernel
theorem dX6_put_36 : decode cX6_put 36 = .ok (.ifCond .lt 22, 3) := by decide +kernel
theorem dX6_put_39 : decode cX6_put 39 = .ok (.aload_n 0, 1) := by decide +kernel
theorem dX6_put_40 : decode cX6_put 40 = .ok (.getfield 26, 3) := by decide +kernel
theorem dX6_put_43 : decode cX6_put 43 = .ok (.lload_n 1, 1) := by decide +kernel
theorem dX6_put_44 : decode cX6_put 44 = .ok (.iload 4, 2) := by decide +kernel
theorem dX6_put_46 : decode cX6_put 46 = .ok (.invokestatic 226, 3) := by decide +kernel
theorem dX6_put_49 : decode cX6_put 49 = .ok (.invokevirtual 82, 3) := by decide +kernel
theorem dX6_put_52 : decode cX6_put 52 = .ok (.iinc 4 (-1), 3) := by decide +kernel
theorem dX6_put_55 : decode cX6_put 55 = .ok (.goto (-21), 3) := by decide +kernel
theorem dX6_put_58 : decode cX6_put 58 = .ok (.aload_n 0, 1) := by decide +kernel
theorem dX6_put_59 : decode cX6_put 59 = .ok (.getfield 26, 3) := by decide +kernel
theorem dX6_put_62 : decode cX6_put 62 = .ok (.getfield 104, 3) := by decide +kernel
theorem dX6_put_65 : decode cX6_put 65 = .ok (.ireturn, 1) := by decide +kernel
set_option maxRecDepth 20000 in
theorem ggX6_wipe_X5_clear : GoodIn wsX6_wipe wsX5_clear := goodIn_r _ [7, 8, 15, 16] (by decide +kernel) (by decide +kernel)
set_option maxRecDepth 20000 in
theorem gX6_wipe_X5_clear : GoodIn wsX6_wipe (wsV RX6 79 RX5 yX5_clear wsX5_clear) := goodIn_app (goodIn_of _ (by decide +kernel)) ggX6_wipe_X5_clear
theorem dX6_wipe_0 : decode cX6_wipe 0 = .ok (.aload_n 0, 1) := by decide +kernel
theorem dX6_wipe_1 : decode cX6_wipe 1 = .ok (.getfield 26, 3) := by decide +kernel
theorem dX6_wipe_4 : decode cX6_wipe 4 = .ok (.getfield 104, 3) := by decide +kernel
theorem dX6_wipe_7 : decode cX6_wipe 7 = .ok (.istore_n 1, 1) := by decide +kernel
theorem dX6_wipe_8 : decode cX6_wipe 8 = .ok (.aload_n 0, 1) := by decide +kernel
theorem dX6_wipe_9 : decode cX6_wipe 9 = .ok (.getfield 26, 3) := by decide +kernel
theorem dX6_wipe_12 : decode cX6_wipe 12 = .ok (.invokevirtual 79, 3) := by decide +kernel
theorem dX6_wipe_15 : decode cX6_wipe 15 = .ok (.iload_n 1, 1) := by decide +kernel
theorem dX6_wipe_16 : decode cX6_wipe 16 = .ok (.ireturn, 1) := by decide +kernel
set_option maxRecDepth 20000 in
theorem ggX6_fault_X0_faultOf : GoodIn wsX6_fault wsX0_faultOf := goodIn_r _ [5, 6, 7, 8, 9, 10, 11, 12, 13, 14, 15, 4, 16, 17, 18, 19, 20, 21, 22, 23, 24, 25, 32, 33] (by decide +kernel) (by decide +kernel)
set_option maxRecDepth 20000 in
theorem gX6_fault_X0_faultOf : GoodIn wsX6_fault (va_wsS RX6 230 yX0_faultOf wsX0_faultOf) := goodIn_app (goodIn_of _ (by decide +kernel)) ggX6_fault_X0_faultOf
theorem dX6_fault_0 : decode cX6_fault 0 = .ok (.aload_n 0, 1) := by decide +kernel
theorem dX6_fault_1 : decode cX6_fault 1 = .ok (.getfield 26, 3) := by decide +kernel
theorem dX6_fault_4 : decode cX6_fault 4 = .ok (.invokestatic 230, 3) := by decide +kernel
theorem dX6_fault_7 : decode cX6_fault 7 = .ok (.ireturn, 1) := by decide +kernel
set_option maxRecDepth 20000 in
theorem ggX6_carryOut_X0_faultOf : GoodIn wsX6_carryOut wsX0_faultOf := goodIn_r _ [8, 9, 10, 11, 12, 13, 14, 15, 16, 17, 18, 7, 19, 20, 21, 22, 23, 24, 25, 26, 27, 28, 208, 209] (by decide +kernel) (by decide +kernel)
set_option maxRecDepth 20000 in
theorem gX6_carryOut_X0_faultOf : GoodIn wsX6_carryOut (va_wsS RX6 230 yX0_faultOf wsX0_faultOf) := goodIn_app (goodIn_of _ (by decide +kernel)) ggX6_carryOut_X0_faultOf
set_option maxRecDepth 20000 in
theorem ggX6_carryOut_X1_prepare : GoodIn wsX6_carryOut wsX1_prepare := goodIn_r _ [33, 34, 35, 36, 37, 38, 39, 40, 41, 42, 43, 44, 45, 46, 47, 48, 49, 50, 51, 52, 53, 54, 55, 56, 57, 58, 59, 60, 61, 62, 63, 64, 65, 66, 67, 68, 69, 70, 71, 72, 73, 210, 211, 212, 213, 214, 215, 216, 217, 218, 219, 220, 221, 222, 223, 224, 225, 226, 227, 228, 229, 230, 231, 232, 233, 234, 235] (by decide +kernel) (by decide +kernel)
set_option maxRecDepth 20000 in
theorem gX6_carryOut_X1_prepare : GoodIn wsX6_carryOut (wsV RX6 45 RX1 yX1_prepare wsX1_prepare) := goodIn_app (goodIn_of _ (by decide +kernel)) ggX6_carryOut_X1_prepare
set_option maxRecDepth 20000 in
theorem ggX6_carryOut_X5_signAt : GoodIn wsX6_carryOut wsX5_signAt := goodIn_r _ [14, 15, 16, 208, 209] (by decide +kernel) (by decide +kernel)
set_option maxRecDepth 20000 in
theorem gX6_carryOut_X5_signAt : GoodIn wsX6_carryOut (wsV RX6 107 RX5 yX5_signAt wsX5_signAt) := goodIn_app (goodIn_of _ (by decide +kernel)) ggX6_carryOut_X5_signAt
set_option maxRecDepth 20000 in
theorem ggX6_carryOut_X6_carryOneOut : GoodIn wsX6_carryOut wsX6_carryOneOut := goodIn_r _ [79, 1, 3, 74, 11, 12, 13, 14, 15, 16, 80, 81, 82, 83, 84, 85, 86, 87, 39, 88, 42, 47, 43, 89, 90, 91, 92, 93, 94, 95, 51, 96, 53, 54, 55, 56, 57, 58, 59, 60, 61, 62, 63, 64, 65, 97, 98, 99, 100, 44, 45, 101, 102, 103, 69, 104, 71, 72, 73, 105, 106, 107, 108, 109, 110, 111, 112, 113, 114, 115, 116, 117, 46, 118, 119, 120, 121, 122, 123, 124, 125, 126, 127, 128, 129, 130, 131, 132, 133, 134, 135, 136, 41, 137, 138, 139, 140, 141, 142, 143, 144, 78, 145, 146, 147, 148, 149, 150, 151, 152, 153, 154, 155, 156, 157, 158, 159, 160, 161, 162, 163, 164, 165, 166, 167, 168, 169, 170, 171, 172, 173, 174, 175, 176, 177, 178, 179, 180, 181, 182, 183, 184, 185, 186, 187, 188, 189, 190, 191, 202, 203, 204, 205, 206, 207, 208, 209, 213, 214, 215, 216, 217, 218, 219, 220, 221, 222, 223, 224, 225, 226, 227, 228, 229, 230, 231, 232, 233, 234, 235] (by decide +kernel) (by decide +kernel)
set_option maxRecDepth 20000 in
theorem gX6_carryOut_X6_carryOneOut : GoodIn wsX6_carryOut (wsV RX6 236 RX6 yX6_carryOneOut wsX6_carryOneOut) := goodIn_app (goodIn_of _ (by decide +kernel)) ggX6_carryOut_X6_carryOneOut
set_option maxRecDepth 20000 in
theorem ggX6_carryOut_X5_clear : GoodIn wsX6_carryOut wsX5_clear := goodIn_r _ [195, 15, 208, 209] (by decide +kernel) (by decide +kernel)
set_option maxRecDepth 20000 in
theorem gX6_carryOut_X5_clear : GoodIn wsX6_carryOut (wsV RX6 79 RX5 yX5_clear wsX5_clear) := goodIn_app (goodIn_of _ (by decide +kernel)) ggX6_carryOut_X5_clear
set_option maxRecDepth 20000 in
theorem ggX6_carryOut_X1_settle : GoodIn wsX6_carryOut wsX1_settle := goodIn_r _ [199, 35, 200, 201, 138, 139, 140, 210, 211, 212] (by decide +kernel) (by decide +kernel)
set_option maxRecDepth 20000 in
theorem gX6_carryOut_X1_settle : GoodIn wsX6_carryOut (wsV RX6 53 RX1 yX1_settle wsX1_settle) := goodIn_app (goodIn_of _ (by decide +kernel)) ggX6_carryOut_X1_settle
theorem dX6_carryOut_0 : decode cX6_carryOut 0 = .ok (.aload_n 0, 1) := by decide +kernel
theorem dX6_carryOut_1 : decode cX6_carryOut 1 = .ok (.getfield 26, 3) := by decide +kernel
theorem dX6_carryOut_4 : decode cX6_carryOut 4 = .ok (.invokestatic 230, 3) := by decide +kernel
theorem dX6_carryOut_7 : decode cX6_carryOut 7 = .ok (.bipush (-6), 2) := by decide +kernel
theorem dX6_carryOut_9 : decode cX6_carryOut 9 = .ok (.if_icmp .eq 6, 3) := by decide +kernel
theorem dX6_carryOut_12 : decode cX6_carryOut 12 = .ok (.bipush (-3), 2) := by decide +kernel
theorem dX6_carryOut_14 : decode cX6_carryOut 14 = .ok (.ireturn, 1) := by decide +kernel
theorem dX6_carryOut_15 : decode cX6_carryOut 15 = .ok (.aload_n 0, 1) := by decide +kernel
theorem dX6_carryOut_16 : decode cX6_carryOut 16 = .ok (.getfield 33, 3) := by decide +kernel
theorem dX6_carryOut_19 : decode cX6_carryOut 19 = .ok (.aload_n 0, 1) := by decide +kernel
theorem dX6_carryOut_20 : decode cX6_carryOut 20 = .ok (.getfield 10, 3) := by decide +kernel
theorem dX6_carryOut_23 : decode cX6_carryOut 23 = .ok (.invokevirtual 45, 3) := by decide +kernel
theorem dX6_carryOut_26 : decode cX6_carryOut 26 = .ok (.iconst 0, 1) := by decide +kernel
theorem dX6_carryOut_27 : decode cX6_carryOut 27 = .ok (.istore_n 1, 1) := by decide +kernel
theorem dX6_carryOut_28 : decode cX6_carryOut 28 = .ok (.iconst 0, 1) := by decide +kernel
theorem dX6_carryOut_29 : decode cX6_carryOut 29 = .ok (.istore_n 2, 1) := by decide +kernel
theorem dX6_carryOut_30 : decode cX6_carryOut 30 = .ok (.iconst 0, 1) := by decide +kernel
theorem dX6_carryOut_31 : decode cX6_carryOut 31 = .ok (.istore_n 3, 1) := by decide +kernel
theorem dX6_carryOut_32 : decode cX6_carryOut 32 = .ok (.iload_n 3, 1) := by decide +kernel
theorem dX6_carryOut_33 : decode cX6_carryOut 33 = .ok (.aload_n 0, 1) := by decide +kernel
theorem dX6_carryOut_34 : decode cX6_carryOut 34 = .ok (.getfield 26, 3) := by decide +kernel
theorem dX6_carryOut_37 : decode cX6_carryOut 37 = .ok (.getfield 104, 3) := by decide +kernel
theorem dX6_carryOut_40 : decode cX6_carryOut 40 = .ok (.if_icmp .gt 55, 3) := by decide +kernel
theorem dX6_carryOut_43 : decode cX6_carryOut 43 = .ok (.iload_n 3, 1) := by decide +kernel
theorem dX6_carryOut_44 : decode cX6_carryOut 44 = .ok (.aload_n 0, 1) := by decide +kernel
theorem dX6_carryOut_45 : decode cX6_carryOut 45 = .ok (.getfield 26, 3) := by decide +kernel
theorem dX6_carryOut_48 : decode cX6_carryOut 48 = .ok (.getfield 104, 3) := by decide +kernel
theorem dX6_carryOut_51 : decode cX6_carryOut 51 = .ok (.if_icmp .ge 19, 3) := by decide +kernel
theorem dX6_carryOut_54 : decode cX6_carryOut 54 = .ok (.aload_n 0, 1) := by decide +kernel
theorem dX6_carryOut_55 : decode cX6_carryOut 55 = .ok (.getfield 26, 3) := by decide +kernel
theorem dX6_carryOut_58 : decode cX6_carryOut 58 = .ok (.iload_n 3, 1) := by decide +kernel
theorem dX6_carryOut_59 : decode cX6_carryOut 59 = .ok (.invokevirtual 107, 3) := by decide +kernel
theorem dX6_carryOut_62 : decode cX6_carryOut 62 = .ok (.bipush 59, 2) := by decide +kernel
theorem dX6_carryOut_64 : decode cX6_carryOut 64 = .ok (.if_icmp .eq 6, 3) := by decide +kernel
theorem dX6_carryOut_67 : decode cX6_carryOut 67 = .ok (.goto 22, 3) := by decide +kernel
theorem dX6_carryOut_70 : decode cX6_carryOut 70 = .ok (.aload_n 0, 1) := by decide +kernel
theorem dX6_carryOut_71 : decode cX6_carryOut 71 = .ok (.iload_n 2, 1) := by decide +kernel
theorem dX6_carryOut_72 : decode cX6_carryOut 72 = .ok (.iload_n 3, 1) := by decide +kernel
theorem dX6_carryOut_73 : decode cX6_carryOut 73 = .ok (.invokevirtual 236, 3) := by decide +kernel
theorem dX6_carryOut_76 : decode cX6_carryOut 76 = .ok (.ifCond .ge 6, 3) := by decide +kernel
theorem dX6_carryOut_79 : decode cX6_carryOut 79 = .ok (.goto 16, 3) := by decide +kernel
theorem dX6_carryOut_82 : decode cX6_carryOut 82 = .ok (.iinc 1 1, 3) := by decide +kernel
theorem dX6_carryOut_85 : decode cX6_carryOut 85 = .ok (.iload_n 3, 1) := by decide +kernel
theorem dX6_carryOut_86 : decode cX6_carryOut 86 = .ok (.iconst 1, 1) := by decide +kernel
theorem dX6_carryOut_87 : decode cX6_carryOut 87 = .ok (.iadd, 1) := by decide +kernel
theorem dX6_carryOut_88 : decode cX6_carryOut 88 = .ok (.istore_n 2, 1) := by decide +kernel
theorem dX6_carryOut_89 : decode cX6_carryOut 89 = .ok (.iinc 3 1, 3) := by decide +kernel
theorem dX6_carryOut_92 : decode cX6_carryOut 92 = .ok (.goto (-60), 3) := by decide +kernel
theorem dX6_carryOut_95 : decode cX6_carryOut 95 = .ok (.aload_n 0, 1) := by decide +kernel
theorem dX6_carryOut_96 : decode cX6_carryOut 96 = .ok (.getfield 26, 3) := by decide +kernel
theorem dX6_carryOut_99 : decode cX6_carryOut 99 = .ok (.invokevirtual 79, 3) := by decide +kernel
theorem dX6_carryOut_102 : decode cX6_carryOut 102 = .ok (.aload_n 0, 1) := by decide +kernel
theorem dX6_carryOut_103 : decode cX6_carryOut 103 = .ok (.getfield 33, 3) := by decide +kernel
theorem dX6_carryOut_106 : decode cX6_carryOut 106 = .ok (.iload_n 1, 1) := by decide +kernel
theorem dX6_carryOut_107 : decode cX6_carryOut 107 = .ok (.invokevirtual 53, 3) := by decide +kernel
theorem dX6_carryOut_110 : decode cX6_carryOut 110 = .ok (.ireturn, 1) := by decide +kernel
set_option maxRecDepth 20000 in
theorem ggX6_carryOneOut_X5_signAt : GoodIn wsX6_carryOneOut wsX5_signAt := goodIn_r _ [7, 8, 9, 155, 156] (by decide +kernel) (by decide +kernel)
set_option maxRecDepth 20000 in
theorem gX6_carryOneOut_X5_signAt : GoodIn wsX6_carryOneOut (wsV RX6 107 RX5 yX5_signAt wsX5_signAt) := goodIn_app (goodIn_of _ (by decide +kernel)) ggX6_carryOneOut_X5_signAt
set_option maxRecDepth 20000 in
theorem ggX6_carryOneOut_X5_numberIn : GoodIn wsX6_carryOneOut wsX5_numberIn := goodIn_r _ [13, 14, 4, 5, 6, 7, 8, 9, 155, 156] (by decide +kernel) (by decide +kernel)
set_option maxRecDepth 20000 in
theorem gX6_carryOneOut_X5_numberIn : GoodIn wsX6_carryOneOut (wsV RX6 239 RX5 yX5_numberIn wsX5_numberIn) := goodIn_app (goodIn_of _ (by decide +kernel)) ggX6_carryOneOut_X5_numberIn
set_option maxRecDepth 20000 in
theorem ggX6_carryOneOut_X2_addMeter : GoodIn wsX6_carryOneOut wsX2_addMeter := goodIn_r _ [19, 20, 21, 22, 23, 24, 25, 18, 26, 27, 28, 29, 30, 31, 32, 33, 34, 35, 36, 37, 38, 39, 40, 41, 42, 43, 44, 157, 158, 159, 160, 161, 162, 163, 164, 165, 166, 167, 168, 169, 170, 171, 172, 173, 174, 175, 176] (by decide +kernel) (by decide +kernel)
set_option maxRecDepth 20000 in
theorem gX6_carryOneOut_X2_addMeter : GoodIn wsX6_carryOneOut (wsV RX6 57 RX2 yX2_addMeter wsX2_addMeter) := goodIn_app (goodIn_of _ (by decide +kernel)) ggX6_carryOneOut_X2_addMeter
set_option maxRecDepth 20000 in
theorem ggX6_carryOneOut_X2_addLoad : GoodIn wsX6_carryOneOut wsX2_addLoad := goodIn_r _ [48, 49, 50, 23, 24, 25, 18, 26, 20, 22, 51, 52, 53, 54, 55, 56, 57, 58, 157, 158, 159, 160, 161, 162, 163, 177, 178, 179] (by decide +kernel) (by decide +kernel)
set_option maxRecDepth 20000 in
theorem gX6_carryOneOut_X2_addLoad : GoodIn wsX6_carryOneOut (wsV RX6 60 RX2 yX2_addLoad wsX2_addLoad) := goodIn_app (goodIn_of _ (by decide +kernel)) ggX6_carryOneOut_X2_addLoad
set_option maxRecDepth 20000 in
theorem ggX6_carryOneOut_X2_switchLoad : GoodIn wsX6_carryOneOut wsX2_switchLoad := goodIn_r _ [62, 63, 64, 65, 66, 18, 67, 49, 50, 177, 178, 179, 157, 158, 159, 160, 161, 162, 163] (by decide +kernel) (by decide +kernel)
set_option maxRecDepth 20000 in
theorem gX6_carryOneOut_X2_switchLoad : GoodIn wsX6_carryOneOut (wsV RX6 63 RX2 yX2_switchLoad wsX2_switchLoad) := goodIn_app (goodIn_of _ (by decide +kernel)) ggX6_carryOneOut_X2_switchLoad
set_option maxRecDepth 20000 in
theorem ggX6_carryOneOut_X2_elapse : GoodIn wsX6_carryOneOut wsX2_elapse := goodIn_r _ [71, 72, 73, 20, 22, 74, 75, 76, 18, 77, 49, 50, 63, 78, 79, 80, 81, 82, 83, 84, 85, 86, 87, 88, 89, 90, 91, 92, 93, 94, 95, 96, 97, 98, 99, 100, 101, 102, 103, 104, 105, 30, 106, 35, 107, 108, 109, 110, 111, 112, 113, 40, 33, 37, 36, 34, 114, 115, 116, 117, 118, 42, 157, 158, 159, 160, 161, 162, 163, 177, 178, 179, 164, 165, 166, 167, 168, 169, 170, 171, 172, 173, 174, 175, 176] (by decide +kernel) (by decide +kernel)
set_option maxRecDepth 20000 in
theorem gX6_carryOneOut_X2_elapse : GoodIn wsX6_carryOneOut (wsV RX6 72 RX2 yX2_elapse wsX2_elapse) := goodIn_app (goodIn_of _ (by decide +kernel)) ggX6_carryOneOut_X2_elapse
set_option maxRecDepth 20000 in
theorem ggX6_carryOneOut_X2_breakSeal : GoodIn wsX6_carryOneOut wsX2_breakSeal := goodIn_r _ [122, 123, 124, 23, 24, 25, 18, 26, 20, 22, 164, 165, 166, 167, 168, 169, 170, 171, 172, 173, 174, 175, 176, 157, 158, 159, 160, 161, 162, 163] (by decide +kernel) (by decide +kernel)
set_option maxRecDepth 20000 in
theorem gX6_carryOneOut_X2_breakSeal : GoodIn wsX6_carryOneOut (wsV RX6 66 RX2 yX2_breakSeal wsX2_breakSeal) := goodIn_app (goodIn_of _ (by decide +kernel)) ggX6_carryOneOut_X2_breakSeal
set_option maxRecDepth 20000 in
theorem ggX6_carryOneOut_X2_inspect : GoodIn wsX6_carryOneOut wsX2_inspect := goodIn_r _ [128, 123, 21, 23, 24, 25, 18, 26, 20, 22, 129, 130, 131, 132, 92, 133, 134, 135, 30, 136, 36, 38, 137, 138, 139, 140, 37, 39, 141, 142, 143, 144, 43, 44, 34, 35, 145, 146, 147, 148, 42, 41, 164, 165, 166, 167, 168, 169, 170, 171, 172, 173, 174, 175, 176, 157, 158, 159, 160, 161, 162, 163] (by decide +kernel) (by decide +kernel)
set_option maxRecDepth 20000 in
theorem gX6_carryOneOut_X2_inspect : GoodIn wsX6_carryOneOut (wsV RX6 69 RX2 yX2_inspect wsX2_inspect) := goodIn_app (goodIn_of _ (by decide +kernel)) ggX6_carryOneOut_X2_inspect
theorem dX6_carryOneOut_0 : decode cX6_carryOneOut 0 = .ok (.aload_n 0, 1) := by decide +kernel
theorem dX6_carryOneOut_1 : decode cX6_carryOneOut 1 = .ok (.getfield 26, 3) := by decide +kernel
theorem dX6_carryOneOut_4 : decode cX6_carryOneOut 4 = .ok (.iload_n 1, 1) := by decide +kernel
theorem dX6_carryOneOut_5 : decode cX6_carryOneOut 5 = .ok (.invokevirtual 107, 3) := by decide +kernel
theorem dX6_carryOneOut_8 : decode cX6_carryOneOut 8 = .ok (.lookupswitch 187 #[(98, 149), (108, 79), (109, 60), (115, 111), (116, 130), (118, 168)], 60) := by decide +kernel
theorem dX6_carryOneOut_68 : decode cX6_carryOneOut 68 = .ok (.aload_n 0, 1) := by decide +kernel
theorem dX6_carryOneOut_69 : decode cX6_carryOneOut 69 = .ok (.getfield 10, 3) := by decide +kernel
theorem dX6_carryOneOut_72 : decode cX6_carryOneOut 72 = .ok (.aload_n 0, 1) := by decide +kernel
theorem dX6_carryOneOut_73 : decode cX6_carryOneOut 73 = .ok (.getfield 26, 3) := by decide +kernel
theorem dX6_carryOneOut_76 : decode cX6_carryOneOut 76 = .ok (.iload_n 1, 1) := by decide +kernel
theorem dX6_carryOneOut_77 : decode cX6_carryOneOut 77 = .ok (.iconst 1, 1) := by decide +kernel
theorem dX6_carryOneOut_78 : decode cX6_carryOneOut 78 = .ok (.iadd, 1) := by decide +kernel
theorem dX6_carryOneOut_79 : decode cX6_carryOneOut 79 = .ok (.iload_n 2, 1) := by decide +kernel
theorem dX6_carryOneOut_80 : decode cX6_carryOneOut 80 = .ok (.invokevirtual 239, 3) := by decide +kernel
theorem dX6_carryOneOut_83 : decode cX6_carryOneOut 83 = .ok (.invokevirtual 57, 3) := by decide +kernel
theorem dX6_carryOneOut_86 : decode cX6_carryOneOut 86 = .ok (.ireturn, 1) := by decide +kernel
theorem dX6_carryOneOut_87 : decode cX6_carryOneOut 87 = .ok (.aload_n 0, 1) := by decide +kernel
theorem dX6_carryOneOut_88 : decode cX6_carryOneOut 88 = .ok (.getfield 10, 3) := by decide +kernel
theorem dX6_carryOneOut_91 : decode cX6_carryOneOut 91 = .ok (.aload_n 0, 1) := by decide +kernel
theorem dX6_carryOneOut_92 : decode cX6_carryOneOut 92 = .ok (.getfield 26, 3) := by decide +kernel
theorem dX6_carryOneOut_95 : decode cX6_carryOneOut 95 = .ok (.iload_n 1, 1) := by decide +kernel
theorem dX6_carryOneOut_96 : decode cX6_carryOneOut 96 = .ok (.iconst 1, 1) := by decide +kernel
theorem dX6_carryOneOut_97 : decode cX6_carryOneOut 97 = .ok (.iadd, 1) := by decide +kernel
theorem dX6_carryOneOut_98 : decode cX6_carryOneOut 98 = .ok (.iload_n 1, 1) := by decide +kernel
theorem dX6_carryOneOut_99 : decode cX6_carryOneOut 99 = .ok (.iconst 2, 1) := by decide +kernel
theorem dX6_carryOneOut_100 : decode cX6_carryOneOut 100 = .ok (.iadd, 1) := by decide +kernel
theorem dX6_carryOneOut_101 : decode cX6_carryOneOut 101 = .ok (.invokevirtual 239, 3) := by decide +kernel
theorem dX6_carryOneOut_104 : decode cX6_carryOneOut 104 = .ok (.aload_n 0, 1) := by decide +kernel
theorem dX6_carryOneOut_105 : decode cX6_carryOneOut 105 = .ok (.getfield 26, 3) := by decide +kernel
theorem dX6_carryOneOut_108 : decode cX6_carryOneOut 108 = .ok (.iload_n 1, 1) := by decide +kernel
theorem dX6_carryOneOut_109 : decode cX6_carryOneOut 109 = .ok (.iconst 3, 1) := by decide +kernel
theorem dX6_carryOneOut_110 : decode cX6_carryOneOut 110 = .ok (.iadd, 1) := by decide +kernel
theorem dX6_carryOneOut_111 : decode cX6_carryOneOut 111 = .ok (.iload_n 2, 1) := by decide +kernel
theorem dX6_carryOneOut_112 : decode cX6_carryOneOut 112 = .ok (.invokevirtual 239, 3) := by decide +kernel
theorem dX6_carryOneOut_115 : decode cX6_carryOneOut 115 = .ok (.invokevirtual 60, 3) := by decide +kernel
theorem dX6_carryOneOut_118 : decode cX6_carryOneOut 118 = .ok (.ireturn, 1) := by decide +kernel
theorem dX6_carryOneOut_119 : decode cX6_carryOneOut 119 = .ok (.aload_n 0, 1) := by decide +kernel
theorem dX6_carryOneOut_120 : decode cX6_carryOneOut 120 = .ok (.getfield 10, 3) := by decide +kernel
theorem dX6_carryOneOut_123 : decode cX6_carryOneOut 123 = .ok (.aload_n 0, 1) := by decide +kernel
theorem dX6_carryOneOut_124 : decode cX6_carryOneOut 124 = .ok (.getfield 26, 3) := by decide +kernel
theorem dX6_carryOneOut_127 : decode cX6_carryOneOut 127 = .ok (.iload_n 1, 1) := by decide +kernel
theorem dX6_carryOneOut_128 : decode cX6_carryOneOut 128 = .ok (.iconst 1, 1) := by decide +kernel
theorem dX6_carryOneOut_129 : decode cX6_carryOneOut 129 = .ok (.iadd, 1) := by decide +kernel
theorem dX6_carryOneOut_130 : decode cX6_carryOneOut 130 = .ok (.iload_n 2, 1) := by decide +kernel
theorem dX6_carryOneOut_131 : decode cX6_carryOneOut 131 = .ok (.invokevirtual 239, 3) := by decide +kernel
theorem dX6_carryOneOut_134 : decode cX6_carryOneOut 134 = .ok (.invokevirtual 63, 3) := by decide +kernel
theorem dX6_carryOneOut_137 : decode cX6_carryOneOut 137 = .ok (.ireturn, 1) := by decide +kernel
theorem dX6_carryOneOut_138 : decode cX6_carryOneOut 138 = .ok (.aload_n 0, 1) := by decide +kernel
theorem dX6_carryOneOut_139 : decode cX6_carryOneOut 139 = .ok (.getfield 10, 3) := by decide +kernel
theorem dX6_carryOneOut_142 : decode cX6_carryOneOut 142 = .ok (.aload_n 0, 1) := by decide +kernel
theorem dX6_carryOneOut_143 : decode cX6_carryOneOut 143 = .ok (.getfield 26, 3) := by decide +kernel
theorem dX6_carryOneOut_146 : decode cX6_carryOneOut 146 = .ok (.iload_n 1, 1) := by decide +kernel
theorem dX6_carryOneOut_147 : decode cX6_carryOneOut 147 = .ok (.iconst 1, 1) := by decide +kernel
theorem dX6_carryOneOut_148 : decode cX6_carryOneOut 148 = .ok (.iadd, 1) := by decide +kernel
theorem dX6_carryOneOut_149 : decode cX6_carryOneOut 149 = .ok (.iload_n 2, 1) := by decide +kernel
theorem dX6_carryOneOut_150 : decode cX6_carryOneOut 150 = .ok (.invokevirtual 239, 3) := by decide +kernel
theorem dX6_carryOneOut_153 : decode cX6_carryOneOut 153 = .ok (.invokevirtual 72, 3) := by decide +kernel
theorem dX6_carryOneOut_156 : decode cX6_carryOneOut 156 = .ok (.ireturn, 1) := by decide +kernel
theorem dX6_carryOneOut_157 : decode cX6_carryOneOut 157 = .ok (.aload_n 0, 1) := by decide +kernel
theorem dX6_carryOneOut_158 : decode cX6_carryOneOut 158 = .ok (.getfield 10, 3) := by decide +kernel
theorem dX6_carryOneOut_161 : decode cX6_carryOneOut 161 = .ok (.aload_n 0, 1) := by decide +kernel
theorem dX6_carryOneOut_162 : decode cX6_carryOneOut 162 = .ok (.getfield 26, 3) := by decide +kernel
theorem dX6_carryOneOut_165 : decode cX6_carryOneOut 165 = .ok (.iload_n 1, 1) := by decide +kernel
theorem dX6_carryOneOut_166 : decode cX6_carryOneOut 166 = .ok (.iconst 1, 1) := by decide +kernel
theorem dX6_carryOneOut_167 : decode cX6_carryOneOut 167 = .ok (.iadd, 1) := by decide +kernel
theorem dX6_carryOneOut_168 : decode cX6_carryOneOut 168 = .ok (.iload_n 2, 1) := by decide +kernel
theorem dX6_carryOneOut_169 : decode cX6_carryOneOut 169 = .ok (.invokevirtual 239, 3) := by decide +kernel
theorem dX6_carryOneOut_172 : decode cX6_carryOneOut 172 = .ok (.invokevirtual 66, 3) := by decide +kernel
theorem dX6_carryOneOut_175 : decode cX6_carryOneOut 175 = .ok (.ireturn, 1) := by decide +kernel
theorem dX6_carryOneOut_176 : decode cX6_carryOneOut 176 = .ok (.aload_n 0, 1) := by decide +kernel
theorem dX6_carryOneOut_177 : decode cX6_carryOneOut 177 = .ok (.getfield 10, 3) := by decide +kernel
theorem dX6_carryOneOut_180 : decode cX6_carryOneOut 180 = .ok (.aload_n 0, 1) := by decide +kernel
theorem dX6_carryOneOut_181 : decode cX6_carryOneOut 181 = .ok (.getfield 26, 3) := by decide +kernel
theorem dX6_carryOneOut_184 : decode cX6_carryOneOut 184 = .ok (.iload_n 1, 1) := by decide +kernel
theorem dX6_carryOneOut_185 : decode cX6_carryOneOut 185 = .ok (.iconst 1, 1) := by decide +kernel
theorem dX6_carryOneOut_186 : decode cX6_carryOneOut 186 = .ok (.iadd, 1) := by decide +kernel
theorem dX6_carryOneOut_187 : decode cX6_carryOneOut 187 = .ok (.iload_n 2, 1) := by decide +kernel
theorem dX6_carryOneOut_188 : decode cX6_carryOneOut 188 = .ok (.invokevirtual 239, 3) := by decide +kernel
theorem dX6_carryOneOut_191 : decode cX6_carryOneOut 191 = .ok (.invokevirtual 69, 3) := by decide +kernel
theorem dX6_carryOneOut_194 : decode cX6_carryOneOut 194 = .ok (.ireturn, 1) := by decide +kernel
theorem dX6_carryOneOut_195 : decode cX6_carryOneOut 195 = .ok (.bipush (-3), 2) := by decide +kernel
theorem dX6_carryOneOut_197 : decode cX6_carryOneOut 197 = .ok (.ireturn, 1) := by decide +kernel
set_option maxRecDepth 20000 in
theorem ggX6_undo_X1_takeLatest : GoodIn wsX6_undo wsX1_takeLatest := goodIn_r _ [8, 9, 10, 11, 56, 57, 58] (by decide +kernel) (by decide +kernel)
set_option maxRecDepth 20000 in
theorem gX6_undo_X1_takeLatest : GoodIn wsX6_undo (wsV RX6 242 RX1 yX1_takeLatest wsX1_takeLatest) := goodIn_app (goodIn_of _ (by decide +kernel)) ggX6_undo_X1_takeLatest
set_option maxRecDepth 20000 in
theorem ggX6_undo_X2_copyFrom : GoodIn wsX6_undo wsX2_copyFrom := goodIn_r _ [16, 17, 18, 19, 20, 21, 22, 23, 24, 25, 26, 27, 28, 29, 30, 31, 32, 33, 34, 35, 36, 37, 38, 39, 40, 41, 42, 43, 44, 45, 46, 47, 48, 49, 59, 60, 61, 62, 63, 64, 65, 66, 67, 68, 69, 70, 71, 72, 73, 74, 75, 76, 77, 78, 79, 80, 81] (by decide +kernel) (by decide +kernel)
set_option maxRecDepth 20000 in
theorem gX6_undo_X2_copyFrom : GoodIn wsX6_undo (wsV RX6 246 RX2 yX2_copyFrom wsX2_copyFrom) := goodIn_app (goodIn_of _ (by decide +kernel)) ggX6_undo_X2_copyFrom
theorem dX6_undo_0 : decode cX6_undo 0 = .ok (.aload_n 0, 1) := by decide +kernel
theorem dX6_undo_1 : decode cX6_undo 1 = .ok (.getfield 33, 3) := by decide +kernel
theorem dX6_undo_4 : decode cX6_undo 4 = .ok (.getfield 196, 3) := by decide +kernel
theorem dX6_undo_7 : decode cX6_undo 7 = .ok (.ifCond .ne 6, 3) := by decide +kernel
theorem dX6_undo_10 : decode cX6_undo 10 = .ok (.bipush (-5), 2) := by decide +kernel
theorem dX6_undo_12 : decode cX6_undo 12 = .ok (.ireturn, 1) := by decide +kernel
theorem dX6_undo_13 : decode cX6_undo 13 = .ok (.aload_n 0, 1) := by decide +kernel
theorem dX6_undo_14 : decode cX6_undo 14 = .ok (.getfield 10, 3) := by decide +kernel
theorem dX6_undo_17 : decode cX6_undo 17 = .ok (.aload_n 0, 1) := by decide +kernel
theorem dX6_undo_18 : decode cX6_undo 18 = .ok (.getfield 33, 3) := by decide +kernel
theorem dX6_undo_21 : decode cX6_undo 21 = .ok (.invokevirtual 242, 3) := by decide +kernel
theorem dX6_undo_24 : decode cX6_undo 24 = .ok (.invokevirtual 246, 3) := by decide +kernel
theorem dX6_undo_27 : decode cX6_undo 27 = .ok (.aload_n 0, 1) := by decide +kernel
theorem dX6_undo_28 : decode cX6_undo 28 = .ok (.getfield 33, 3) := by decide +kernel
theorem dX6_undo_31 : decode cX6_undo 31 = .ok (.getfield 196, 3) := by decide +kernel
theorem dX6_undo_34 : decode cX6_undo 34 = .ok (.ireturn, 1) := by decide +kernel
set_option maxRecDepth 20000 in
theorem ggX6_save_X2_copyFrom : GoodIn wsX6_save wsX2_copyFrom := goodIn_r _ [9, 10, 11, 12, 13, 14, 15, 16, 17, 18, 19, 20, 21, 22, 23, 24, 25, 26, 27, 28, 29, 30, 31, 32, 33, 34, 35, 36, 37, 38, 39, 40, 41, 42, 49, 50, 51, 52, 53, 54, 55, 56, 57, 58, 59, 60, 61, 62, 63, 64, 65, 66, 67, 68, 69, 70, 71] (by decide +kernel) (by decide +kernel)
set_option maxRecDepth 20000 in
theorem gX6_save_X2_copyFrom : GoodIn wsX6_save (wsV RX6 246 RX2 yX2_copyFrom wsX2_copyFrom) := goodIn_app (goodIn_of _ (by decide +kernel)) ggX6_save_X2_copyFrom
theorem dX6_save_0 : decode cX6_save 0 = .ok (.iload_n 1, 1) := by decide +kernel
theorem dX6_save_1 : decode cX6_save 1 = .ok (.ifCond .lt 8, 3) := by decide +kernel
theorem dX6_save_4 : decode cX6_save 4 = .ok (.iload_n 1, 1) := by decide +kernel
theorem dX6_save_5 : decode cX6_save 5 = .ok (.iconst 2, 1) := by decide +kernel
theorem dX6_save_6 : decode cX6_save 6 = .ok (.if_icmp .lt 6, 3) := by decide +kernel
theorem dX6_save_9 : decode cX6_save 9 = .ok (.bipush (-2), 2) := by decide +kernel
theorem dX6_save_11 : decode cX6_save 11 = .ok (.ireturn, 1) := by decide +kernel
theorem dX6_save_12 : decode cX6_save 12 = .ok (.aload_n 0, 1) := by decide +kernel
theorem dX6_save_13 : decode cX6_save 13 = .ok (.getfield 37, 3) := by decide +kernel
theorem dX6_save_16 : decode cX6_save 16 = .ok (.iload_n 1, 1) := by decide +kernel
theorem dX6_save_17 : decode cX6_save 17 = .ok (.aaload, 1) := by decide +kernel
theorem dX6_save_18 : decode cX6_save 18 = .ok (.aload_n 0, 1) := by decide +kernel
theorem dX6_save_19 : decode cX6_save 19 = .ok (.getfield 10, 3) := by decide +kernel
theorem dX6_save_22 : decode cX6_save 22 = .ok (.invokevirtual 246, 3) := by decide +kernel
theorem dX6_save_25 : decode cX6_save 25 = .ok (.aload_n 0, 1) := by decide +kernel
theorem dX6_save_26 : decode cX6_save 26 = .ok (.getfield 41, 3) := by decide +kernel
theorem dX6_save_29 : decode cX6_save 29 = .ok (.iload_n 1, 1) := by decide +kernel
theorem dX6_save_30 : decode cX6_save 30 = .ok (.iconst 1, 1) := by decide +kernel
theorem dX6_save_31 : decode cX6_save 31 = .ok (.bastore, 1) := by decide +kernel
theorem dX6_save_32 : decode cX6_save 32 = .ok (.aload_n 0, 1) := by decide +kernel
theorem dX6_save_33 : decode cX6_save 33 = .ok (.getfield 10, 3) := by decide +kernel
theorem dX6_save_36 : decode cX6_save 36 = .ok (.getfield 174, 3) := by decide +kernel
theorem dX6_save_39 : decode cX6_save 39 = .ok (.ireturn, 1) := by decide +kernel
set_option maxRecDepth 20000 in
theorem ggX6_restore_X1_prepare : GoodIn wsX6_restore wsX1_prepare := goodIn_r _ [10, 11, 12, 13, 14, 15, 16, 17, 18, 19, 20, 21, 22, 23, 24, 25, 26, 27, 28, 29, 30, 31, 32, 33, 34, 35, 36, 37, 38, 39, 40, 41, 42, 43, 44, 45, 46, 47, 48, 49, 50, 74, 75, 76, 67, 68, 69, 70, 71, 72, 73, 77, 78, 79, 80, 81, 82, 83, 84, 85, 86, 87, 88, 89, 90, 91, 92] (by decide +kernel) (by decide +kernel)
set_option maxRecDepth 20000 in
theorem gX6_restore_X1_prepare : GoodIn wsX6_restore (wsV RX6 45 RX1 yX1_prepare wsX1_prepare) := goodIn_app (goodIn_of _ (by decide +kernel)) ggX6_restore_X1_prepare
set_option maxRecDepth 20000 in
theorem ggX6_restore_X2_copyFrom : GoodIn wsX6_restore wsX2_copyFrom := goodIn_r _ [17, 18, 19, 20, 21, 22, 23, 24, 25, 26, 27, 28, 29, 30, 31, 32, 33, 34, 35, 36, 37, 38, 39, 40, 41, 42, 43, 44, 45, 46, 47, 48, 49, 50, 67, 68, 69, 70, 71, 72, 73, 77, 78, 79, 80, 81, 82, 83, 84, 85, 86, 87, 88, 89, 90, 91, 92] (by decide +kernel) (by decide +kernel)
set_option maxRecDepth 20000 in
theorem gX6_restore_X2_copyFrom : GoodIn wsX6_restore (wsV RX6 246 RX2 yX2_copyFrom wsX2_copyFrom) := goodIn_app (goodIn_of _ (by decide +kernel)) ggX6_restore_X2_copyFrom
set_option maxRecDepth 20000 in
theorem ggX6_restore_X1_settle : GoodIn wsX6_restore wsX1_settle := goodIn_r _ [55, 12, 56, 57, 58, 59, 60, 74, 75, 76] (by decide +kernel) (by decide +kernel)
set_option maxRecDepth 20000 in
theorem gX6_restore_X1_settle : GoodIn wsX6_restore (wsV RX6 53 RX1 yX1_settle wsX1_settle) := goodIn_app (goodIn_of _ (by decide +kernel)) ggX6_restore_X1_settle
theorem dX6_restore_0 : decode cX6_restore 0 = .ok (.iload_n 1, 1) := by decide +kernel
theorem dX6_restore_1 : decode cX6_restore 1 = .ok (.ifCond .lt 8, 3) := by decide +kernel
theorem dX6_restore_4 : decode cX6_restore 4 = .ok (.iload_n 1, 1) := by decide +kernel
theorem dX6_restore_5 : decode cX6_restore 5 = .ok (.iconst 2, 1) := by decide +kernel
theorem dX6_restore_6 : decode cX6_restore 6 = .ok (.if_icmp .lt 6, 3) := by decide +kernel
theorem dX6_restore_9 : decode cX6_restore 9 = .ok (.bipush (-2), 2) := by decide +kernel
theorem dX6_restore_11 : decode cX6_restore 11 = .ok (.ireturn, 1) := by decide +kernel
theorem dX6_restore_12 : decode cX6_restore 12 = .ok (.aload_n 0, 1) := by decide +kernel
theorem dX6_restore_13 : decode cX6_restore 13 = .ok (.getfield 41, 3) := by decide +kernel
theorem dX6_restore_16 : decode cX6_restore 16 = .ok (.iload_n 1, 1) := by decide +kernel
theorem dX6_restore_17 : decode cX6_restore 17 = .ok (.baload, 1) := by decide +kernel
theorem dX6_restore_18 : decode cX6_restore 18 = .ok (.ifCond .ne 6, 3) := by decide +kernel
theorem dX6_restore_21 : decode cX6_restore 21 = .ok (.bipush (-5), 2) := by decide +kernel
theorem dX6_restore_23 : decode cX6_restore 23 = .ok (.ireturn, 1) := by decide +kernel
theorem dX6_restore_24 : decode cX6_restore 24 = .ok (.aload_n 0, 1) := by decide +kernel
theorem dX6_restore_25 : decode cX6_restore 25 = .ok (.getfield 33, 3) := by decide +kernel
theorem dX6_restore_28 : decode cX6_restore 28 = .ok (.aload_n 0, 1) := by decide +kernel
theorem dX6_restore_29 : decode cX6_restore 29 = .ok (.getfield 10, 3) := by decide +kernel
theorem dX6_restore_32 : decode cX6_restore 32 = .ok (.invokevirtual 45, 3) := by decide +kernel
theorem dX6_restore_35 : decode cX6_restore 35 = .ok (.aload_n 0, 1) := by decide +kernel
theorem dX6_restore_36 : decode cX6_restore 36 = .ok (.getfield 10, 3) := by decide +kernel
theorem dX6_restore_39 : decode cX6_restore 39 = .ok (.aload_n 0, 1) := by decide +kernel
theorem dX6_restore_40 : decode cX6_restore 40 = .ok (.getfield 37, 3) := by decide +kernel
theorem dX6_restore_43 : decode cX6_restore 43 = .ok (.iload_n 1, 1) := by decide +kernel
theorem dX6_restore_44 : decode cX6_restore 44 = .ok (.aaload, 1) := by decide +kernel
theorem dX6_restore_45 : decode cX6_restore 45 = .ok (.invokevirtual 246, 3) := by decide +kernel
theorem dX6_restore_48 : decode cX6_restore 48 = .ok (.aload_n 0, 1) := by decide +kernel
theorem dX6_restore_49 : decode cX6_restore 49 = .ok (.getfield 33, 3) := by decide +kernel
theorem dX6_restore_52 : decode cX6_restore 52 = .ok (.aload_n 0, 1) := by decide +kernel
theorem dX6_restore_53 : decode cX6_restore 53 = .ok (.getfield 10, 3) := by decide +kernel
theorem dX6_restore_56 : decode cX6_restore 56 = .ok (.getfield 174, 3) := by decide +kernel
theorem dX6_restore_59 : decode cX6_restore 59 = .ok (.invokevirtual 53, 3) := by decide +kernel
theorem dX6_restore_62 : decode cX6_restore 62 = .ok (.ireturn, 1) := by decide +kernel
theorem dX6_isNight_0 : decode cX6_isNight 0 = .ok (.iload_n 0, 1) := by decide +kernel
theorem dX6_isNight_1 : decode cX6_isNight 1 = .ok (.sipush 1440, 3) := by decide +kernel
theorem dX6_isNight_4 : decode cX6_isNight 4 = .ok (.irem, 1) := by decide +kernel
theorem dX6_isNight_5 : decode cX6_isNight 5 = .ok (.istore_n 1, 1) := by decide +kernel
theorem dX6_isNight_6 : decode cX6_isNight 6 = .ok (.iload_n 1, 1) := by decide +kernel
theorem dX6_isNight_7 : decode cX6_isNight 7 = .ok (.sipush 1320, 3) := by decide +kernel
theorem dX6_isNight_10 : decode cX6_isNight 10 = .ok (.if_icmp .ge 10, 3) := by decide +kernel
theorem dX6_isNight_13 : decode cX6_isNight 13 = .ok (.iload_n 1, 1) := by decide +kernel
theorem dX6_isNight_14 : decode cX6_isNight 14 = .ok (.sipush 360, 3) := by decide +kernel
theorem dX6_isNight_17 : decode cX6_isNight 17 = .ok (.if_icmp .ge 7, 3) := by decide +kernel
theorem dX6_isNight_20 : decode cX6_isNight 20 = .ok (.iconst 1, 1) := by decide +kernel
theorem dX6_isNight_21 : decode cX6_isNight 21 = .ok (.goto 4, 3) := by decide +kernel
theorem dX6_isNight_24 : decode cX6_isNight 24 = .ok (.iconst 0, 1) := by decide +kernel
theorem dX6_isNight_25 : decode cX6_isNight 25 = .ok (.ireturn, 1) := by decide +kernel
theorem dX6_minutesToSwitch_0 : decode cX6_minutesToSwitch 0 = .ok (.iload_n 0, 1) := by decide +kernel
theorem dX6_minutesToSwitch_1 : decode cX6_minutesToSwitch 1 = .ok (.sipush 1440, 3) := by decide +kernel
theorem dX6_minutesToSwitch_4 : decode cX6_minutesToSwitch 4 = .ok (.irem, 1) := by decide +kernel
theorem dX6_minutesToSwitch_5 : decode cX6_minutesToSwitch 5 = .ok (.istore_n 1, 1) := by decide +kernel
theorem dX6_minutesToSwitch_6 : decode cX6_minutesToSwitch 6 = .ok (.iload_n 1, 1) := by decide +kernel
theorem dX6_minutesToSwitch_7 : decode cX6_minutesToSwitch 7 = .ok (.sipush 360, 3) := by decide +kernel
theorem dX6_minutesToSwitch_10 : decode cX6_minutesToSwitch 10 = .ok (.if_icmp .ge 9, 3) := by decide +kernel
theorem dX6_minutesToSwitch_13 : decode cX6_minutesToSwitch 13 = .ok (.sipush 360, 3) := by decide +kernel
theorem dX6_minutesToSwitch_16 : decode cX6_minutesToSwitch 16 = .ok (.iload_n 1, 1) := by decide +kernel
theorem dX6_minutesToSwitch_17 : decode cX6_minutesToSwitch 17 = .ok (.isub, 1) := by decide +kernel
theorem dX6_minutesToSwitch_18 : decode cX6_minutesToSwitch 18 = .ok (.ireturn, 1) := by decide +kernel
theorem dX6_minutesToSwitch_19 : decode cX6_minutesToSwitch 19 = .ok (.iload_n 1, 1) := by decide +kernel
theorem dX6_minutesToSwitch_20 : decode cX6_minutesToSwitch 20 = .ok (.sipush 1320, 3) := by decide +kernel
theorem dX6_minutesToSwitch_23 : decode cX6_minutesToSwitch 23 = .ok (.if_icmp .ge 9, 3) := by decide +kernel
theorem dX6_minutesToSwitch_26 : decode cX6_minutesToSwitch 26 = .ok (.sipush 1320, 3) := by decide +kernel
theorem dX6_minutesToSwitch_29 : decode cX6_minutesToSwitch 29 = .ok (.goto 6, 3) := by decide +kernel
theorem dX6_minutesToSwitch_32 : decode cX6_minutesToSwitch 32 = .ok (.sipush 1440, 3) := by decide +kernel
theorem dX6_minutesToSwitch_35 : decode cX6_minutesToSwitch 35 = .ok (.iload_n 1, 1) := by decide +kernel
theorem dX6_minutesToSwitch_36 : decode cX6_minutesToSwitch 36 = .ok (.isub, 1) := by decide +kernel
theorem dX6_minutesToSwitch_37 : decode cX6_minutesToSwitch 37 = .ok (.ireturn, 1) := by decide +kernel
end
section
theorem dX7_init_0 : decode cX7_init 0 = .ok (.aload_n 0, 1) := by decide +kernel
theorem dX7_init_1 : decode cX7_init 1 = .ok (.invokespecial 1, 3) := by decide +kernel
theorem dX7_init_4 : decode cX7_init 4 = .ok (.aload_n 0, 1) := by decide +kernel
theorem dX7_init_5 : decode cX7_init 5 = .ok (.sipush 276, 3) := by decide +kernel
theorem dX7_init_8 : decode cX7_init 8 = .ok (.newarray .long, 2) := by decide +kernel
theorem dX7_init_10 : decode cX7_init 10 = .ok (.putfield 7, 3) := by decide +kernel
theorem dX7_init_13 : decode cX7_init 13 = .ok (.aload_n 0, 1) := by decide +kernel
theorem dX7_init_14 : decode cX7_init 14 = .ok (.sipush 828, 3) := by decide +kernel
theorem dX7_init_17 : decode cX7_init 17 = .ok (.newarray .long, 2) := by decide +kernel
theorem dX7_init_19 : decode cX7_init 19 = .ok (.putfield 13, 3) := by decide +kernel
theorem dX7_init_22 : decode cX7_init 22 = .ok (.aload_n 0, 1) := by decide +kernel
theorem dX7_init_23 : decode cX7_init 23 = .ok (.sipush 276, 3) := by decide +kernel
theorem dX7_init_26 : decode cX7_init 26 = .ok (.newarray .long, 2) := by decide +kernel
theorem dX7_init_28 : decode cX7_init 28 = .ok (.putfield 16, 3) := by decide +kernel
theorem dX7_init_31 : decode cX7_init 31 = .ok (.aload_n 0, 1) := by decide +kernel
theorem dX7_init_32 : decode cX7_init 32 = .ok (.iconst 2, 1) := by decide +kernel
theorem dX7_init_33 : decode cX7_init 33 = .ok (.newarray .boolean, 2) := by decide +kernel
theorem dX7_init_35 : decode cX7_init 35 = .ok (.putfield 19, 3) := by decide +kernel
theorem dX7_init_38 : decode cX7_init 38 = .ok (.aload_n 0, 1) := by decide +kernel
theorem dX7_init_39 : decode cX7_init 39 = .ok (.bipush 80, 2) := by decide +kernel
theorem dX7_init_41 : decode cX7_init 41 = .ok (.newarray .int, 2) := by decide +kernel
theorem dX7_init_43 : decode cX7_init 43 = .ok (.putfield 23, 3) := by decide +kernel
theorem dX7_init_46 : decode cX7_init 46 = .ok (.aload_n 0, 1) := by decide +kernel
theorem dX7_init_47 : decode cX7_init 47 = .ok (.getfield 7, 3) := by decide +kernel
theorem dX7_init_50 : decode cX7_init 50 = .ok (.iconst 0, 1) := by decide +kernel
theorem dX7_init_51 : decode cX7_init 51 = .ok (.ldc2_w 27, 3) := by decide +kernel
theorem dX7_init_54 : decode cX7_init 54 = .ok (.lastore, 1) := by decide +kernel
theorem dX7_init_55 : decode cX7_init 55 = .ok (.aload_n 0, 1) := by decide +kernel
theorem dX7_init_56 : decode cX7_init 56 = .ok (.getfield 7, 3) := by decide +kernel
theorem dX7_init_59 : decode cX7_init 59 = .ok (.iconst 1, 1) := by decide +kernel
theorem dX7_init_60 : decode cX7_init 60 = .ok (.ldc2_w 29, 3) := by decide +kernel
theorem dX7_init_63 : decode cX7_init 63 = .ok (.lastore, 1) := by decide +kernel
theorem dX7_init_64 : decode cX7_init 64 = .ok (.aload_n 0, 1) := by decide +kernel
theorem dX7_init_65 : decode cX7_init 65 = .ok (.getfield 7, 3) := by decide +kernel
theorem dX7_init_68 : decode cX7_init 68 = .ok (.iconst 2, 1) := by decide +kernel
theorem dX7_init_69 : decode cX7_init 69 = .ok (.lconst 1, 1) := by decide +kernel
theorem dX7_init_70 : decode cX7_init 70 = .ok (.lastore, 1) := by decide +kernel
theorem dX7_init_71 : decode cX7_init 71 = .ok (.aload_n 0, 1) := by decide +kernel
theorem dX7_init_72 : decode cX7_init 72 = .ok (.getfield 7, 3) := by decide +kernel
theorem dX7_init_75 : decode cX7_init 75 = .ok (.iconst 3, 1) := by decide +kernel
theorem dX7_init_76 : decode cX7_init 76 = .ok (.ldc2_w 31, 3) := by decide +kernel
theorem dX7_init_79 : decode cX7_init 79 = .ok (.lastore, 1) := by decide +kernel
theorem dX7_init_80 : decode cX7_init 80 = .ok (.aload_n 0, 1) := by decide +kernel
theorem dX7_init_81 : decode cX7_init 81 = .ok (.getfield 7, 3) := by decide +kernel
theorem dX7_init_84 : decode cX7_init 84 = .ok (.iconst 4, 1) := by decide +kernel
theorem dX7_init_85 : decode cX7_init 85 = .ok (.ldc2_w 33, 3) := by decide +kernel
theorem dX7_init_88 : decode cX7_init 88 = .ok (.lastore, 1) := by decide +kernel
theorem dX7_init_89 : decode cX7_init 89 = .ok (.aload_n 0, 1) := by decide +kernel
theorem dX7_init_90 : decode cX7_init 90 = .ok (.getfield 7, 3) := by decide +kernel
theorem dX7_init_93 : decode cX7_init 93 = .ok (.iconst 5, 1) := by decide +kernel
theorem dX7_init_94 : decode cX7_init 94 = .ok (.ldc2_w 35, 3) := by decide +kernel
theorem dX7_init_97 : decode cX7_init 97 = .ok (.lastore, 1) := by decide +kernel
theorem dX7_init_98 : decode cX7_init 98 = .ok (.return_, 1) := by decide +kernel
theorem dX7_in_0 : decode cX7_in 0 = .ok (.iload_n 0, 1) := by decide +kernel
theorem dX7_in_1 : decode cX7_in 1 = .ok (.iload_n 1, 1) := by decide +kernel
theorem dX7_in_2 : decode cX7_in 2 = .ok (.if_icmp .lt 12, 3) := by decide +kernel
theorem dX7_in_5 : decode cX7_in 5 = .ok (.iload_n 0, 1) := by decide +kernel
theorem dX7_in_6 : decode cX7_in 6 = .ok (.iload_n 2, 1) := by decide +kernel
theorem dX7_in_7 : decode cX7_in 7 = .ok (.if_icmp .gt 7, 3) := by decide +kernel
theorem dX7_in_10 : decode cX7_in 10 = .ok (.iconst 1, 1) := by decide +kernel
theorem dX7_in_11 : decode cX7_in 11 = .ok (.goto 4, 3) := by decide +kernel
theorem dX7_in_14 : decode cX7_in 14 = .ok (.iconst 0, 1) := by decide +kernel
theorem dX7_in_15 : decode cX7_in 15 = .ok (.ireturn, 1) := by decide +kernel
theorem dX7_num_0 : decode cX7_num 0 = .ok (.aload_n 0, 1) := by decide +kernel
theorem dX7_num_1 : decode cX7_num 1 = .ok (.getfield 7, 3) := by decide +kernel
theorem dX7_num_4 : decode cX7_num 4 = .ok (.iload_n 1, 1) := by decide +kernel
theorem dX7_num_5 : decode cX7_num 5 = .ok (.laload, 1) := by decide +kernel
theorem dX7_num_6 : decode cX7_num 6 = .ok (.l2i, 1) := by decide +kernel
theorem dX7_num_7 : decode cX7_num 7 = .ok (.ireturn, 1) := by decide +kernel
set_option maxRecDepth 20000 in
theorem ggX7_isMeter_X7_num : GoodIn wsX7_isMeter wsX7_num := goodIn_r _ [5, 6, 10, 11, 12, 13, 14, 15, 16] (by decide +kernel) (by decide +kernel)
set_option maxRecDepth 20000 in
theorem gX7_isMeter_X7_num : GoodIn wsX7_isMeter (wsV RX7 37 RX7 yX7_num wsX7_num) := goodIn_app (goodIn_of _ (by decide +kernel)) ggX7_isMeter_X7_num
set_option maxRecDepth 20000 in
theorem ggX7_isMeter_X7_in : GoodIn wsX7_isMeter wsX7_in := goodIn_r _ [9] (by decide +kernel) (by decide +kernel)
set_option maxRecDepth 20000 in
theorem gX7_isMeter_X7_in : GoodIn wsX7_isMeter (va_wsS RX7 41 yX7_in wsX7_in) := goodIn_app (goodIn_of _ (by decide +kernel)) ggX7_isMeter_X7_in
theorem dX7_isMeter_0 : decode cX7_isMeter 0 = .ok (.iload_n 1, 1) := by decide +kernel
theorem dX7_isMeter_1 : decode cX7_isMeter 1 = .ok (.iconst 0, 1) := by decide +kernel
theorem dX7_isMeter_2 : decode cX7_isMeter 2 = .ok (.aload_n 0, 1) := by decide +kernel
theorem dX7_isMeter_3 : decode cX7_isMeter 3 = .ok (.bipush 7, 2) := by decide +kernel
theorem dX7_isMeter_5 : decode cX7_isMeter 5 = .ok (.invokevirtual 37, 3) := by decide +kernel
theorem dX7_isMeter_8 : decode cX7_isMeter 8 = .ok (.iconst 1, 1) := by decide +kernel
theorem dX7_isMeter_9 : decode cX7_isMeter 9 = .ok (.isub, 1) := by decide +kernel
theorem dX7_isMeter_10 : decode cX7_isMeter 10 = .ok (.invokestatic 41, 3) := by decide +kernel
theorem dX7_isMeter_13 : decode cX7_isMeter 13 = .ok (.ireturn, 1) := by decide +kernel
theorem dX7_at_0 : decode cX7_at 0 = .ok (.iload_n 0, 1) := by decide +kernel
theorem dX7_at_1 : decode cX7_at 1 = .ok (.bipush 11, 2) := by decide +kernel
theorem dX7_at_3 : decode cX7_at 3 = .ok (.iadd, 1) := by decide +kernel
theorem dX7_at_4 : decode cX7_at 4 = .ok (.bipush 13, 2) := by decide +kernel
theorem dX7_at_6 : decode cX7_at 6 = .ok (.iload_n 1, 1) := by decide +kernel
theorem dX7_at_7 : decode cX7_at 7 = .ok (.imul, 1) := by decide +kernel
theorem dX7_at_8 : decode cX7_at 8 = .ok (.iadd, 1) := by decide +kernel
theorem dX7_at_9 : decode cX7_at 9 = .ok (.ireturn, 1) := by decide +kernel
set_option maxRecDepth 20000 in
theorem ggX7_its_X7_at : GoodIn wsX7_its wsX7_at := goodIn_r _ [5] (by decide +kernel) (by decide +kernel)
set_option maxRecDepth 20000 in
theorem gX7_its_X7_at : GoodIn wsX7_its (va_wsS RX7 45 yX7_at wsX7_at) := goodIn_app (goodIn_of _ (by decide +kernel)) ggX7_its_X7_at
theorem dX7_its_0 : decode cX7_its 0 = .ok (.aload_n 0, 1) := by decide +kernel
theorem dX7_its_1 : decode cX7_its 1 = .ok (.getfield 7, 3) := by decide +kernel
theorem dX7_its_4 : decode cX7_its 4 = .ok (.iconst 0, 1) := by decide +kernel
theorem dX7_its_5 : decode cX7_its 5 = .ok (.iload_n 1, 1) := by decide +kernel
theorem dX7_its_6 : decode cX7_its 6 = .ok (.invokestatic 45, 3) := by decide +kernel
theorem dX7_its_9 : decode cX7_its 9 = .ok (.iload_n 2, 1) := by decide +kernel
theorem dX7_its_10 : decode cX7_its 10 = .ok (.iadd, 1) := by decide +kernel
theorem dX7_its_11 : decode cX7_its 11 = .ok (.laload, 1) := by decide +kernel
theorem dX7_its_12 : decode cX7_its 12 = .ok (.l2i, 1) := by decide +kernel
theorem dX7_its_13 : decode cX7_its 13 = .ok (.ireturn, 1) := by decide +kernel
theorem dX7_remembers_0 : decode cX7_remembers 0 = .ok (.aload_n 0, 1) := by decide +kernel
theorem dX7_remembers_1 : decode cX7_remembers 1 = .ok (.getfield 49, 3) := by decide +kernel
theorem dX7_remembers_4 : decode cX7_remembers 4 = .ok (.bipush 6, 2) := by decide +kernel
theorem dX7_remembers_6 : decode cX7_remembers 6 = .ok (.if_icmp .ne 44, 3) := by decide +kernel
theorem dX7_remembers_9 : decode cX7_remembers 9 = .ok (.iconst 0, 1) := by decide +kernel
theorem dX7_remembers_10 : decode cX7_remembers 10 = .ok (.istore_n 1, 1) := by decide +kernel
theorem dX7_remembers_11 : decode cX7_remembers 11 = .ok (.iload_n 1, 1) := by decide +kernel
theorem dX7_remembers_12 : decode cX7_remembers 12 = .ok (.sipush 690, 3) := by decide +kernel
theorem dX7_remembers_15 : decode cX7_remembers 15 = .ok (.if_icmp .ge 25, 3) := by decide +kernel
theorem dX7_remembers_18 : decode cX7_remembers 18 = .ok (.aload_n 0, 1) := by decide +kernel
theorem dX7_remembers_19 : decode cX7_remembers 19 = .ok (.getfield 13, 3) := by decide +kernel
theorem dX7_remembers_22 : decode cX7_remembers 22 = .ok (.iload_n 1, 1) := by decide +kernel
theorem dX7_remembers_23 : decode cX7_remembers 23 = .ok (.aload_n 0, 1) := by decide +kernel
theorem dX7_remembers_24 : decode cX7_remembers 24 = .ok (.getfield 13, 3) := by decide +kernel
theorem dX7_remembers_27 : decode cX7_remembers 27 = .ok (.sipush 138, 3) := by decide +kernel
theorem dX7_remembers_30 : decode cX7_remembers 30 = .ok (.iload_n 1, 1) := by decide +kernel
theorem dX7_remembers_31 : decode cX7_remembers 31 = .ok (.iadd, 1) := by decide +kernel
theorem dX7_remembers_32 : decode cX7_remembers 32 = .ok (.laload, 1) := by decide +kernel
theorem dX7_remembers_33 : decode cX7_remembers 33 = .ok (.lastore, 1) := by decide +kernel
theorem dX7_remembers_34 : decode cX7_remembers 34 = .ok (.iinc 1 1, 3) := by decide +kernel
theorem dX7_remembers_37 : decode cX7_remembers 37 = .ok (.goto (-26), 3) := by decide +kernel
theorem dX7_remembers_40 : decode cX7_remembers 40 = .ok (.aload_n 0, 1) := by decide +kernel
theorem dX7_remembers_41 : decode cX7_remembers 41 = .ok (.dup, 1) := by decide +kernel
theorem dX7_remembers_42 : decode cX7_remembers 42 = .ok (.getfield 49, 3) := by decide +kernel
theorem dX7_remembers_45 : decode cX7_remembers 45 = .ok (.iconst 1, 1) := by decide +kernel
theorem dX7_remembers_46 : decode cX7_remembers 46 = .ok (.isub, 1) := by decide +kernel
theorem dX7_remembers_47 : decode cX7_remembers 47 = .ok (.putfield 49, 3) := by decide +kernel
theorem dX7_remembers_50 : decode cX7_remembers 50 = .ok (.iconst 0, 1) := by decide +kernel
theorem dX7_remembers_51 : decode cX7_remembers 51 = .ok (.istore_n 1, 1) := by decide +kernel
theorem dX7_remembers_52 : decode cX7_remembers 52 = .ok (.iload_n 1, 1) := by decide +kernel
theorem dX7_remembers_53 : decode cX7_remembers 53 = .ok (.sipush 138, 3) := by decide +kernel
theorem dX7_remembers_56 : decode cX7_remembers 56 = .ok (.if_icmp .ge 30, 3) := by decide +kernel
theorem dX7_remembers_59 : decode cX7_remembers 59 = .ok (.aload_n 0, 1) := by decide +kernel
theorem dX7_remembers_60 : decode cX7_remembers 60 = .ok (.getfield 13, 3) := by decide +kernel
theorem dX7_remembers_63 : decode cX7_remembers 63 = .ok (.sipush 138, 3) := by decide +kernel
theorem dX7_remembers_66 : decode cX7_remembers 66 = .ok (.aload_n 0, 1) := by decide +kernel
theorem dX7_remembers_67 : decode cX7_remembers 67 = .ok (.getfield 49, 3) := by decide +kernel
theorem dX7_remembers_70 : decode cX7_remembers 70 = .ok (.imul, 1) := by decide +kernel
theorem dX7_remembers_71 : decode cX7_remembers 71 = .ok (.iload_n 1, 1) := by decide +kernel
theorem dX7_remembers_72 : decode cX7_remembers 72 = .ok (.iadd, 1) := by decide +kernel
theorem dX7_remembers_73 : decode cX7_remembers 73 = .ok (.aload_n 0, 1) := by decide +kernel
theorem dX7_remembers_74 : decode cX7_remembers 74 = .ok (.getfield 7, 3) := by decide +kernel
theorem dX7_remembers_77 : decode cX7_remembers 77 = .ok (.iload_n 1, 1) := by decide +kernel
theorem dX7_remembers_78 : decode cX7_remembers 78 = .ok (.laload, 1) := by decide +kernel
theorem dX7_remembers_79 : decode cX7_remembers 79 = .ok (.lastore, 1) := by decide +kernel
theorem dX7_remembers_80 : decode cX7_remembers 80 = .ok (.iinc 1 1, 3) := by decide +kernel
theorem dX7_remembers_83 : decode cX7_remembers 83 = .ok (.goto (-31), 3) := by decide +kernel
theorem dX7_remembers_86 : decode cX7_remembers 86 = .ok (.aload_n 0, 1) := by decide +kernel
theorem dX7_remembers_87 : decode cX7_remembers 87 = .ok (.dup, 1) := by decide +kernel
theorem dX7_remembers_88 : decode cX7_remembers 88 = .ok (.getfield 49, 3) := by decide +kernel
theorem dX7_remembers_91 : decode cX7_remembers 91 = .ok (.iconst 1, 1) := by decide +kernel
theorem dX7_remembers_92 : decode cX7_remembers 92 = .ok (.iadd, 1) := by decide +kernel
theorem dX7_remembers_93 : decode cX7_remembers 93 = .ok (.putfield 49, 3) := by decide +kernel
theorem dX7_remembers_96 : decode cX7_remembers 96 = .ok (.return_, 1) := by decide +kernel
theorem dX7_copies_0 : decode cX7_copies 0 = .ok (.iconst 0, 1) := by decide +kernel
theorem dX7_copies_1 : decode cX7_copies 1 = .ok (.istore_n 1, 1) := by decide +kernel
theorem dX7_copies_2 : decode cX7_copies 2 = .ok (.iload_n 1, 1) := by decide +kernel
theorem dX7_copies_3 : decode cX7_copies 3 = .ok (.sipush 138, 3) := by decide +kernel
theorem dX7_copies_6 : decode cX7_copies 6 = .ok (.if_icmp .ge 25, 3) := by decide +kernel
theorem dX7_copies_9 : decode cX7_copies 9 = .ok (.aload_n 0, 1) := by decide +kernel
theorem dX7_copies_10 : decode cX7_copies 10 = .ok (.getfield 7, 3) := by decide +kernel
theorem dX7_copies_13 : decode cX7_copies 13 = .ok (.sipush 138, 3) := by decide +kernel
theorem dX7_copies_16 : decode cX7_copies 16 = .ok (.iload_n 1, 1) := by decide +kernel
theorem dX7_copies_17 : decode cX7_copies 17 = .ok (.iadd, 1) := by decide +kernel
theorem dX7_copies_18 : decode cX7_copies 18 = .ok (.aload_n 0, 1) := by decide +kernel
theorem dX7_copies_19 : decode cX7_copies 19 = .ok (.getfield 7, 3) := by decide +kernel
theorem dX7_copies_22 : decode cX7_copies 22 = .ok (.iload_n 1, 1) := by decide +kernel
theorem dX7_copies_23 : decode cX7_copies 23 = .ok (.laload, 1) := by decide +kernel
theorem dX7_copies_24 : decode cX7_copies 24 = .ok (.lastore, 1) := by decide +kernel
theorem dX7_copies_25 : decode cX7_copies 25 = .ok (.iinc 1 1, 3) := by decide +kernel
theorem dX7_copies_28 : decode cX7_copies 28 = .ok (.goto (-26), 3) := by decide +kernel
theorem dX7_copies_31 : decode cX7_copies 31 = .ok (.return_, 1) := by decide +kernel
set_option maxRecDepth 20000 in
theorem ggX7_isThrough_X7_its : GoodIn wsX7_isThrough wsX7_its := goodIn_r _ [5, 6, 7, 8, 4, 9, 10, 11, 12, 13, 14, 15, 16] (by decide +kernel) (by decide +kernel)
set_option maxRecDepth 20000 in
theorem gX7_isThrough_X7_its : GoodIn wsX7_isThrough (wsV RX7 53 RX7 yX7_its wsX7_its) := goodIn_app (goodIn_of _ (by decide +kernel)) ggX7_isThrough_X7_its
theorem dX7_isThrough_0 : decode cX7_isThrough 0 = .ok (.iload_n 1, 1) := by decide +kernel
theorem dX7_isThrough_1 : decode cX7_isThrough 1 = .ok (.istore_n 3, 1) := by decide +kernel
theorem dX7_isThrough_2 : decode cX7_isThrough 2 = .ok (.iload_n 3, 1) := by decide +kernel
theorem dX7_isThrough_3 : decode cX7_isThrough 3 = .ok (.iload_n 2, 1) := by decide +kernel
theorem dX7_isThrough_4 : decode cX7_isThrough 4 = .ok (.if_icmp .le 13, 3) := by decide +kernel
theorem dX7_isThrough_7 : decode cX7_isThrough 7 = .ok (.aload_n 0, 1) := by decide +kernel
theorem dX7_isThrough_8 : decode cX7_isThrough 8 = .ok (.iload_n 3, 1) := by decide +kernel
theorem dX7_isThrough_9 : decode cX7_isThrough 9 = .ok (.iconst 0, 1) := by decide +kernel
theorem dX7_isThrough_10 : decode cX7_isThrough 10 = .ok (.invokevirtual 53, 3) := by decide +kernel
theorem dX7_isThrough_13 : decode cX7_isThrough 13 = .ok (.istore_n 3, 1) := by decide +kernel
theorem dX7_isThrough_14 : decode cX7_isThrough 14 = .ok (.goto (-12), 3) := by decide +kernel
theorem dX7_isThrough_17 : decode cX7_isThrough 17 = .ok (.iload_n 3, 1) := by decide +kernel
theorem dX7_isThrough_18 : decode cX7_isThrough 18 = .ok (.iload_n 2, 1) := by decide +kernel
theorem dX7_isThrough_19 : decode cX7_isThrough 19 = .ok (.if_icmp .ne 7, 3) := by decide +kernel
theorem dX7_isThrough_22 : decode cX7_isThrough 22 = .ok (.iconst 1, 1) := by decide +kernel
theorem dX7_isThrough_23 : decode cX7_isThrough 23 = .ok (.goto 4, 3) := by decide +kernel
theorem dX7_isThrough_26 : decode cX7_isThrough 26 = .ok (.iconst 0, 1) := by decide +kernel
theorem dX7_isThrough_27 : decode cX7_isThrough 27 = .ok (.ireturn, 1) := by decide +kernel
set_option maxRecDepth 20000 in
theorem ggX7_power_X7_num : GoodIn wsX7_power wsX7_num := goodIn_r _ [6, 1, 18, 19, 20, 21, 22, 23, 24] (by decide +kernel) (by decide +kernel)
set_option maxRecDepth 20000 in
theorem gX7_power_X7_num : GoodIn wsX7_power (wsV RX7 37 RX7 yX7_num wsX7_num) := goodIn_app (goodIn_of _ (by decide +kernel)) ggX7_power_X7_num
set_option maxRecDepth 20000 in
theorem ggX7_power_X7_isThrough : GoodIn wsX7_power wsX7_isThrough := goodIn_r _ [10, 11, 12, 13, 5, 14, 1, 15, 16, 17, 18, 19, 20, 21, 22, 23, 24] (by decide +kernel) (by decide +kernel)
set_option maxRecDepth 20000 in
theorem gX7_power_X7_isThrough : GoodIn wsX7_power (wsV RX7 56 RX7 yX7_isThrough wsX7_isThrough) := goodIn_app (goodIn_of _ (by decide +kernel)) ggX7_power_X7_isThrough
theorem dX7_power_0 : decode cX7_power 0 = .ok (.iconst 0, 1) := by decide +kernel
theorem dX7_power_1 : decode cX7_power 1 = .ok (.istore_n 2, 1) := by decide +kernel
theorem dX7_power_2 : decode cX7_power 2 = .ok (.iconst 0, 1) := by decide +kernel
theorem dX7_power_3 : decode cX7_power 3 = .ok (.istore_n 3, 1) := by decide +kernel
theorem dX7_power_4 : decode cX7_power 4 = .ok (.iload_n 3, 1) := by decide +kernel
theorem dX7_power_5 : decode cX7_power 5 = .ok (.aload_n 0, 1) := by decide +kernel
theorem dX7_power_6 : decode cX7_power 6 = .ok (.bipush 8, 2) := by decide +kernel
theorem dX7_power_8 : decode cX7_power 8 = .ok (.invokevirtual 37, 3) := by decide +kernel
theorem dX7_power_11 : decode cX7_power 11 = .ok (.if_icmp .ge 80, 3) := by decide +kernel
theorem dX7_power_14 : decode cX7_power 14 = .ok (.aload_n 0, 1) := by decide +kernel
theorem dX7_power_15 : decode cX7_power 15 = .ok (.getfield 7, 3) := by decide +kernel
theorem dX7_power_18 : decode cX7_power 18 = .ok (.bipush 102, 2) := by decide +kernel
theorem dX7_power_20 : decode cX7_power 20 = .ok (.iconst 3, 1) := by decide +kernel
theorem dX7_power_21 : decode cX7_power 21 = .ok (.iload_n 3, 1) := by decide +kernel
theorem dX7_power_22 : decode cX7_power 22 = .ok (.imul, 1) := by decide +kernel
theorem dX7_power_23 : decode cX7_power 23 = .ok (.iadd, 1) := by decide +kernel
theorem dX7_power_24 : decode cX7_power 24 = .ok (.iconst 2, 1) := by decide +kernel
theorem dX7_power_25 : decode cX7_power 25 = .ok (.iadd, 1) := by decide +kernel
theorem dX7_power_26 : decode cX7_power 26 = .ok (.laload, 1) := by decide +kernel
theorem dX7_power_27 : decode cX7_power 27 = .ok (.lconst 1, 1) := by decide +kernel
theorem dX7_power_28 : decode cX7_power 28 = .ok (.lcmp, 1) := by decide +kernel
theorem dX7_power_29 : decode cX7_power 29 = .ok (.ifCond .ne 27, 3) := by decide +kernel
theorem dX7_power_32 : decode cX7_power 32 = .ok (.aload_n 0, 1) := by decide +kernel
theorem dX7_power_33 : decode cX7_power 33 = .ok (.aload_n 0, 1) := by decide +kernel
theorem dX7_power_34 : decode cX7_power 34 = .ok (.getfield 7, 3) := by decide +kernel
theorem dX7_power_37 : decode cX7_power 37 = .ok (.bipush 102, 2) := by decide +kernel
theorem dX7_power_39 : decode cX7_power 39 = .ok (.iconst 3, 1) := by decide +kernel
theorem dX7_power_40 : decode cX7_power 40 = .ok (.iload_n 3, 1) := by decide +kernel
theorem dX7_power_41 : decode cX7_power 41 = .ok (.imul, 1) := by decide +kernel
theorem dX7_power_42 : decode cX7_power 42 = .ok (.iadd, 1) := by decide +kernel
theorem dX7_power_43 : decode cX7_power 43 = .ok (.laload, 1) := by decide +kernel
theorem dX7_power_44 : decode cX7_power 44 = .ok (.l2i, 1) := by decide +kernel
theorem dX7_power_45 : decode cX7_power 45 = .ok (.iload_n 1, 1) := by decide +kernel
theorem dX7_power_46 : decode cX7_power 46 = .ok (.invokevirtual 56, 3) := by decide +kernel
theorem dX7_power_49 : decode cX7_power 49 = .ok (.ifCond .eq 7, 3) := by decide +kernel
theorem dX7_power_52 : decode cX7_power 52 = .ok (.iconst 1, 1) := by decide +kernel
theorem dX7_power_53 : decode cX7_power 53 = .ok (.goto 4, 3) := by decide +kernel
theorem dX7_power_56 : decode cX7_power 56 = .ok (.iconst 0, 1) := by decide +kernel
theorem dX7_power_57 : decode cX7_power 57 = .ok (.istore 4, 2) := by decide +kernel
theorem dX7_power_59 : decode cX7_power 59 = .ok (.iload_n 2, 1) := by decide +kernel
theorem dX7_power_60 : decode cX7_power 60 = .ok (.iload 4, 2) := by decide +kernel
theorem dX7_power_62 : decode cX7_power 62 = .ok (.ifCond .eq 20, 3) := by decide +kernel
theorem dX7_power_65 : decode cX7_power 65 = .ok (.aload_n 0, 1) := by decide +kernel
theorem dX7_power_66 : decode cX7_power 66 = .ok (.getfield 7, 3) := by decide +kernel
theorem dX7_power_69 : decode cX7_power 69 = .ok (.bipush 102, 2) := by decide +kernel
theorem dX7_power_71 : decode cX7_power 71 = .ok (.iconst 3, 1) := by decide +kernel
theorem dX7_power_72 : decode cX7_power 72 = .ok (.iload_n 3, 1) := by decide +kernel
theorem dX7_power_73 : decode cX7_power 73 = .ok (.imul, 1) := by decide +kernel
theorem dX7_power_74 : decode cX7_power 74 = .ok (.iadd, 1) := by decide +kernel
theorem dX7_power_75 : decode cX7_power 75 = .ok (.iconst 1, 1) := by decide +kernel
theorem dX7_power_76 : decode cX7_power 76 = .ok (.iadd, 1) := by decide +kernel
theorem dX7_power_77 : decode cX7_power 77 = .ok (.laload, 1) := by decide +kernel
theorem dX7_power_78 : decode cX7_power 78 = .ok (.l2i, 1) := by decide +kernel
theorem dX7_power_79 : decode cX7_power 79 = .ok (.goto 4, 3) := by decide +kernel
theorem dX7_power_82 : decode cX7_power 82 = .ok (.iconst 0, 1) := by decide +kernel
theorem dX7_power_83 : decode cX7_power 83 = .ok (.iadd, 1) := by decide +kernel
theorem dX7_power_84 : decode cX7_power 84 = .ok (.istore_n 2, 1) := by decide +kernel
theorem dX7_power_85 : decode cX7_power 85 = .ok (.iinc 3 1, 3) := by decide +kernel
theorem dX7_power_88 : decode cX7_power 88 = .ok (.goto (-84), 3) := by decide +kernel
theorem dX7_power_91 : decode cX7_power 91 = .ok (.iload_n 2, 1) := by decide +kernel
theorem dX7_power_92 : decode cX7_power 92 = .ok (.ireturn, 1) := by decide +kernel
theorem dX7_isNight_0 : decode cX7_isNight 0 = .ok (.lload_n 0, 1) := by decide +kernel
theorem dX7_isNight_1 : decode cX7_isNight 1 = .ok (.ldc2_w 60, 3) := by decide +kernel
theorem dX7_isNight_4 : decode cX7_isNight 4 = .ok (.lrem, 1) := by decide +kernel
theorem dX7_isNight_5 : decode cX7_isNight 5 = .ok (.lstore_n 2, 1) := by decide +kernel
theorem dX7_isNight_6 : decode cX7_isNight 6 = .ok (.lload_n 2, 1) := by decide +kernel
theorem dX7_isNight_7 : decode cX7_isNight 7 = .ok (.ldc2_w 62, 3) := by decide +kernel
theorem dX7_isNight_10 : decode cX7_isNight 10 = .ok (.lcmp, 1) := by decide +kernel
theorem dX7_isNight_11 : decode cX7_isNight 11 = .ok (.ifCond .ge 11, 3) := by decide +kernel
theorem dX7_isNight_14 : decode cX7_isNight 14 = .ok (.lload_n 2, 1) := by decide +kernel
theorem dX7_isNight_15 : decode cX7_isNight 15 = .ok (.ldc2_w 64, 3) := by decide +kernel
theorem dX7_isNight_18 : decode cX7_isNight 18 = .ok (.lcmp, 1) := by decide +kernel
theorem dX7_isNight_19 : decode cX7_isNight 19 = .ok (.ifCond .ge 7, 3) := by decide +kernel
theorem dX7_isNight_22 : decode cX7_isNight 22 = .ok (.iconst 1, 1) := by decide +kernel
theorem dX7_isNight_23 : decode cX7_isNight 23 = .ok (.goto 4, 3) := by decide +kernel
theorem dX7_isNight_26 : decode cX7_isNight 26 = .ok (.iconst 0, 1) := by decide +kernel
theorem dX7_isNight_27 : decode cX7_isNight 27 = .ok (.ireturn, 1) := by decide +kernel
set_option maxRecDepth 20000 in
theorem ggX7_goes_X7_at : GoodIn wsX7_goes wsX7_at := goodIn_r _ [8] (by decide +kernel) (by decide +kernel)
set_option maxRecDepth 20000 in
theorem gX7_goes_X7_at : GoodIn wsX7_goes (va_wsS RX7 45 yX7_at wsX7_at) := goodIn_app (goodIn_of _ (by decide +kernel)) ggX7_goes_X7_at
theorem dX7_goes_0 : decode cX7_goes 0 = .ok (.aload_n 0, 1) := by decide +kernel
theorem dX7_goes_1 : decode cX7_goes 1 = .ok (.getfield 7, 3) := by decide +kernel
theorem dX7_goes_4 : decode cX7_goes 4 = .ok (.iload_n 1, 1) := by decide +kernel
theorem dX7_goes_5 : decode cX7_goes 5 = .ok (.iload_n 2, 1) := by decide +kernel
theorem dX7_goes_6 : decode cX7_goes 6 = .ok (.invokestatic 45, 3) := by decide +kernel
theorem dX7_goes_9 : decode cX7_goes 9 = .ok (.iconst 1, 1) := by decide +kernel
theorem dX7_goes_10 : decode cX7_goes 10 = .ok (.iadd, 1) := by decide +kernel
theorem dX7_goes_11 : decode cX7_goes 11 = .ok (.laload, 1) := by decide +kernel
theorem dX7_goes_12 : decode cX7_goes 12 = .ok (.lstore 4, 2) := by decide +kernel
theorem dX7_goes_14 : decode cX7_goes 14 = .ok (.aload_n 0, 1) := by decide +kernel
theorem dX7_goes_15 : decode cX7_goes 15 = .ok (.getfield 7, 3) := by decide +kernel
theorem dX7_goes_18 : decode cX7_goes 18 = .ok (.iload_n 1, 1) := by decide +kernel
theorem dX7_goes_19 : decode cX7_goes 19 = .ok (.iload_n 2, 1) := by decide +kernel
theorem dX7_goes_20 : decode cX7_goes 20 = .ok (.invokestatic 45, 3) := by decide +kernel
theorem dX7_goes_23 : decode cX7_goes 23 = .ok (.bipush 7, 2) := by decide +kernel
theorem dX7_goes_25 : decode cX7_goes 25 = .ok (.iadd, 1) := by decide +kernel
theorem dX7_goes_26 : decode cX7_goes 26 = .ok (.laload, 1) := by decide +kernel
theorem dX7_goes_27 : decode cX7_goes 27 = .ok (.lconst 1, 1) := by decide +kernel
theorem dX7_goes_28 : decode cX7_goes 28 = .ok (.lcmp, 1) := by decide +kernel
theorem dX7_goes_29 : decode cX7_goes 29 = .ok (.ifCond .ne 7, 3) := by decide +kernel
theorem dX7_goes_32 : decode cX7_goes 32 = .ok (.iconst 1, 1) := by decide +kernel
theorem dX7_goes_33 : decode cX7_goes 33 = .ok (.goto 4, 3) := by decide +kernel
theorem dX7_goes_36 : decode cX7_goes 36 = .ok (.iconst 0, 1) := by decide +kernel
theorem dX7_goes_37 : decode cX7_goes 37 = .ok (.istore 6, 2) := by decide +kernel
theorem dX7_goes_39 : decode cX7_goes 39 = .ok (.iload_n 3, 1) := by decide +kernel
theorem dX7_goes_40 : decode cX7_goes 40 = .ok (.i2l, 1) := by decide +kernel
theorem dX7_goes_41 : decode cX7_goes 41 = .ok (.aload_n 0, 1) := by decide +kernel
theorem dX7_goes_42 : decode cX7_goes 42 = .ok (.getfield 7, 3) := by decide +kernel
theorem dX7_goes_45 : decode cX7_goes 45 = .ok (.iload_n 1, 1) := by decide +kernel
theorem dX7_goes_46 : decode cX7_goes 46 = .ok (.iconst 0, 1) := by decide +kernel
theorem dX7_goes_47 : decode cX7_goes 47 = .ok (.iadd, 1) := by decide +kernel
theorem dX7_goes_48 : decode cX7_goes 48 = .ok (.laload, 1) := by decide +kernel
theorem dX7_goes_49 : decode cX7_goes 49 = .ok (.lcmp, 1) := by decide +kernel
theorem dX7_goes_50 : decode cX7_goes 50 = .ok (.ifCond .le 44, 3) := by decide +kernel
theorem dX7_goes_53 : decode cX7_goes 53 = .ok (.iload_n 3, 1) := by decide +kernel
theorem dX7_goes_54 : decode cX7_goes 54 = .ok (.i2l, 1) := by decide +kernel
theorem dX7_goes_55 : decode cX7_goes 55 = .ok (.aload_n 0, 1) := by decide +kernel
theorem dX7_goes_56 : decode cX7_goes 56 = .ok (.getfield 7, 3) := by decide +kernel
theorem dX7_goes_59 : decode cX7_goes 59 = .ok (.iload_n 1, 1) := by decide +kernel
theorem dX7_goes_60 : decode cX7_goes 60 = .ok (.iload_n 2, 1) := by decide +kernel
theorem dX7_goes_61 : decode cX7_goes 61 = .ok (.invokestatic 45, 3) := by decide +kernel
theorem dX7_goes_64 : decode cX7_goes 64 = .ok (.iconst 2, 1) := by decide +kernel
theorem dX7_goes_65 : decode cX7_goes 65 = .ok (.iadd, 1) := by decide +kernel
theorem dX7_goes_66 : decode cX7_goes 66 = .ok (.laload, 1) := by decide +kernel
theorem dX7_goes_67 : decode cX7_goes 67 = .ok (.lmul, 1) := by decide +kernel
theorem dX7_goes_68 : decode cX7_goes 68 = .ok (.ldc2_w 66, 3) := by decide +kernel
theorem dX7_goes_71 : decode cX7_goes 71 = .ok (.ldiv, 1) := by decide +kernel
theorem dX7_goes_72 : decode cX7_goes 72 = .ok (.lstore 7, 2) := by decide +kernel
theorem dX7_goes_74 : decode cX7_goes 74 = .ok (.lload 4, 2) := by decide +kernel
theorem dX7_goes_76 : decode cX7_goes 76 = .ok (.iload 6, 2) := by decide +kernel
theorem dX7_goes_78 : decode cX7_goes 78 = .ok (.ifCond .eq 12, 3) := by decide +kernel
theorem dX7_goes_81 : decode cX7_goes 81 = .ok (.lload 7, 2) := by decide +kernel
theorem dX7_goes_83 : decode cX7_goes 83 = .ok (.ldc2_w 29, 3) := by decide +kernel
theorem dX7_goes_86 : decode cX7_goes 86 = .ok (.ldiv, 1) := by decide +kernel
theorem dX7_goes_87 : decode cX7_goes 87 = .ok (.goto 5, 3) := by decide +kernel
theorem dX7_goes_90 : decode cX7_goes 90 = .ok (.lload 7, 2) := by decide +kernel
theorem dX7_goes_92 : decode cX7_goes 92 = .ok (.ladd, 1) := by decide +kernel
theorem dX7_goes_93 : decode cX7_goes 93 = .ok (.lreturn, 1) := by decide +kernel
theorem dX7_goes_94 : decode cX7_goes 94 = .ok (.iload_n 3, 1) := by decide +kernel
theorem dX7_goes_95 : decode cX7_goes 95 = .ok (.ifCond .gt 8, 3) := by decide +kernel
theorem dX7_goes_98 : decode cX7_goes 98 = .ok (.iload 6, 2) := by decide +kernel
theorem dX7_goes_100 : decode cX7_goes 100 = .ok (.ifCond .eq 6, 3) := by decide +kernel
theorem dX7_goes_103 : decode cX7_goes 103 = .ok (.lload 4, 2) := by decide +kernel
theorem dX7_goes_105 : decode cX7_goes 105 = .ok (.lreturn, 1) := by decide +kernel
theorem dX7_goes_106 : decode cX7_goes 106 = .ok (.aload_n 0, 1) := by decide +kernel
theorem dX7_goes_107 : decode cX7_goes 107 = .ok (.getfield 7, 3) := by decide +kernel
theorem dX7_goes_110 : decode cX7_goes 110 = .ok (.iload_n 1, 1) := by decide +kernel
theorem dX7_goes_111 : decode cX7_goes 111 = .ok (.iconst 2, 1) := by decide +kernel
theorem dX7_goes_112 : decode cX7_goes 112 = .ok (.iadd, 1) := by decide +kernel
theorem dX7_goes_113 : decode cX7_goes 113 = .ok (.laload, 1) := by decide +kernel
theorem dX7_goes_114 : decode cX7_goes 114 = .ok (.lconst 0, 1) := by decide +kernel
theorem dX7_goes_115 : decode cX7_goes 115 = .ok (.lcmp, 1) := by decide +kernel
theorem dX7_goes_116 : decode cX7_goes 116 = .ok (.ifCond .ne 15, 3) := by decide +kernel
theorem dX7_goes_119 : decode cX7_goes 119 = .ok (.lload 4, 2) := by decide +kernel
theorem dX7_goes_121 : decode cX7_goes 121 = .ok (.aload_n 0, 1) := by decide +kernel
theorem dX7_goes_122 : decode cX7_goes 122 = .ok (.getfield 7, 3) := by decide +kernel
theorem dX7_goes_125 : decode cX7_goes 125 = .ok (.iload_n 1, 1) := by decide +kernel
theorem dX7_goes_126 : decode cX7_goes 126 = .ok (.iconst 1, 1) := by decide +kernel
theorem dX7_goes_127 : decode cX7_goes 127 = .ok (.iadd, 1) := by decide +kernel
theorem dX7_goes_128 : decode cX7_goes 128 = .ok (.laload, 1) := by decide +kernel
theorem dX7_goes_129 : decode cX7_goes 129 = .ok (.ladd, 1) := by decide +kernel
theorem dX7_goes_130 : decode cX7_goes 130 = .ok (.lreturn, 1) := by decide +kernel
theorem dX7_goes_131 : decode cX7_goes 131 = .ok (.lload 4, 2) := by decide +kernel
theorem dX7_goes_133 : decode cX7_goes 133 = .ok (.lconst 0, 1) := by decide +kernel
theorem dX7_goes_134 : decode cX7_goes 134 = .ok (.lcmp, 1) := by decide +kernel
theorem dX7_goes_135 : decode cX7_goes 135 = .ok (.ifCond .ne 7, 3) := by decide +kernel
theorem dX7_goes_138 : decode cX7_goes 138 = .ok (.lconst 0, 1) := by decide +kernel
theorem dX7_goes_139 : decode cX7_goes 139 = .ok (.goto 14, 3) := by decide +kernel
theorem dX7_goes_142 : decode cX7_goes 142 = .ok (.lload 4, 2) := by decide +kernel
theorem dX7_goes_144 : decode cX7_goes 144 = .ok (.aload_n 0, 1) := by decide +kernel
theorem dX7_goes_145 : decode cX7_goes 145 = .ok (.getfield 7, 3) := by decide +kernel
theorem dX7_goes_148 : decode cX7_goes 148 = .ok (.iload_n 1, 1) := by decide +kernel
theorem dX7_goes_149 : decode cX7_goes 149 = .ok (.iconst 1, 1) := by decide +kernel
theorem dX7_goes_150 : decode cX7_goes 150 = .ok (.iadd, 1) := by decide +kernel
theorem dX7_goes_151 : decode cX7_goes 151 = .ok (.laload, 1) := by decide +kernel
theorem dX7_goes_152 : decode cX7_goes 152 = .ok (.ladd, 1) := by decide +kernel
theorem dX7_goes_153 : decode cX7_goes 153 = .ok (.lstore 7, 2) := by decide +kernel
theorem dX7_goes_155 : decode cX7_goes 155 = .ok (.lload 7, 2) := by decide +kernel
theorem dX7_goes_157 : decode cX7_goes 157 = .ok (.ldc2_w 68, 3) := by decide +kernel
theorem dX7_goes_160 : decode cX7_goes 160 = .ok (.lcmp, 1) := by decide +kernel
theorem dX7_goes_161 : decode cX7_goes 161 = .ok (.ifCond .le 9, 3) := by decide +kernel
theorem dX7_goes_164 : decode cX7_goes 164 = .ok (.ldc2_w 68, 3) := by decide +kernel
theorem dX7_goes_167 : decode cX7_goes 167 = .ok (.goto 5, 3) := by decide +kernel
theorem dX7_goes_170 : decode cX7_goes 170 = .ok (.lload 7, 2) := by decide +kernel
theorem dX7_goes_172 : decode cX7_goes 172 = .ok (.lreturn, 1) := by decide +kernel
set_option maxRecDepth 20000 in
theorem ggX7_passesOne_X7_at : GoodIn wsX7_passesOne wsX7_at := goodIn_r _ [7] (by decide +kernel) (by decide +kernel)
set_option maxRecDepth 20000 in
theorem gX7_passesOne_X7_at : GoodIn wsX7_passesOne (va_wsS RX7 45 yX7_at wsX7_at) := goodIn_app (goodIn_of _ (by decide +kernel)) ggX7_passesOne_X7_at
set_option maxRecDepth 20000 in
theorem ggX7_passesOne_X7_power : GoodIn wsX7_passesOne wsX7_power := goodIn_r _ [11, 1, 12, 13, 14, 6, 15, 16, 17, 18, 19, 20, 21, 22, 23, 4, 5, 7, 36, 37, 38, 39, 40, 41, 42] (by decide +kernel) (by decide +kernel)
set_option maxRecDepth 20000 in
theorem gX7_passesOne_X7_power : GoodIn wsX7_passesOne (wsV RX7 70 RX7 yX7_power wsX7_power) := goodIn_app (goodIn_of _ (by decide +kernel)) ggX7_passesOne_X7_power
set_option maxRecDepth 20000 in
theorem ggX7_passesOne_X7_goes : GoodIn wsX7_passesOne wsX7_goes := goodIn_r _ [27, 1, 28, 29, 2, 4, 5, 6, 7, 36, 37, 38, 39, 40, 41, 42] (by decide +kernel) (by decide +kernel)
set_option maxRecDepth 20000 in
theorem gX7_passesOne_X7_goes : GoodIn wsX7_passesOne (wsV RX7 73 RX7 yX7_goes wsX7_goes) := goodIn_app (goodIn_of _ (by decide +kernel)) ggX7_passesOne_X7_goes
set_option maxRecDepth 20000 in
theorem ggX7_passesOne_X7_isNight : GoodIn wsX7_passesOne wsX7_isNight := goodIn_r _ [32, 33, 34, 35] (by decide +kernel) (by decide +kernel)
set_option maxRecDepth 20000 in
theorem gX7_passesOne_X7_isNight : GoodIn wsX7_passesOne (va_wsS RX7 77 yX7_isNight wsX7_isNight) := goodIn_app (goodIn_of _ (by decide +kernel)) ggX7_passesOne_X7_isNight
theorem dX7_passesOne_0 : decode cX7_passesOne 0 = .ok (.iload_n 1, 1) := by decide +kernel
theorem dX7_passesOne_1 : decode cX7_passesOne 1 = .ok (.iload_n 2, 1) := by decide +kernel
theorem dX7_passesOne_2 : decode cX7_passesOne 2 = .ok (.invokestatic 45, 3) := by decide +kernel
theorem dX7_passesOne_5 : decode cX7_passesOne 5 = .ok (.istore_n 3, 1) := by decide +kernel
theorem dX7_passesOne_6 : decode cX7_passesOne 6 = .ok (.aload_n 0, 1) := by decide +kernel
theorem dX7_passesOne_7 : decode cX7_passesOne 7 = .ok (.iload_n 2, 1) := by decide +kernel
theorem dX7_passesOne_8 : decode cX7_passesOne 8 = .ok (.invokevirtual 70, 3) := by decide +kernel
theorem dX7_passesOne_11 : decode cX7_passesOne 11 = .ok (.istore 4, 2) := by decide +kernel
theorem dX7_passesOne_13 : decode cX7_passesOne 13 = .ok (.aload_n 0, 1) := by decide +kernel
theorem dX7_passesOne_14 : decode cX7_passesOne 14 = .ok (.getfield 7, 3) := by decide +kernel
theorem dX7_passesOne_17 : decode cX7_passesOne 17 = .ok (.iload_n 3, 1) := by decide +kernel
theorem dX7_passesOne_18 : decode cX7_passesOne 18 = .ok (.iconst 5, 1) := by decide +kernel
theorem dX7_passesOne_19 : decode cX7_passesOne 19 = .ok (.iadd, 1) := by decide +kernel
theorem dX7_passesOne_20 : decode cX7_passesOne 20 = .ok (.dup2, 1) := by decide +kernel
theorem dX7_passesOne_21 : decode cX7_passesOne 21 = .ok (.laload, 1) := by decide +kernel
theorem dX7_passesOne_22 : decode cX7_passesOne 22 = .ok (.iload 4, 2) := by decide +kernel
theorem dX7_passesOne_24 : decode cX7_passesOne 24 = .ok (.i2l, 1) := by decide +kernel
theorem dX7_passesOne_25 : decode cX7_passesOne 25 = .ok (.ladd, 1) := by decide +kernel
theorem dX7_passesOne_26 : decode cX7_passesOne 26 = .ok (.lastore, 1) := by decide +kernel
theorem dX7_passesOne_27 : decode cX7_passesOne 27 = .ok (.aload_n 0, 1) := by decide +kernel
theorem dX7_passesOne_28 : decode cX7_passesOne 28 = .ok (.iload_n 1, 1) := by decide +kernel
theorem dX7_passesOne_29 : decode cX7_passesOne 29 = .ok (.iload_n 2, 1) := by decide +kernel
theorem dX7_passesOne_30 : decode cX7_passesOne 30 = .ok (.iload 4, 2) := by decide +kernel
theorem dX7_passesOne_32 : decode cX7_passesOne 32 = .ok (.invokevirtual 73, 3) := by decide +kernel
theorem dX7_passesOne_35 : decode cX7_passesOne 35 = .ok (.lstore 5, 2) := by decide +kernel
theorem dX7_passesOne_37 : decode cX7_passesOne 37 = .ok (.lload 5, 2) := by decide +kernel
theorem dX7_passesOne_39 : decode cX7_passesOne 39 = .ok (.ldc2_w 68, 3) := by decide +kernel
theorem dX7_passesOne_42 : decode cX7_passesOne 42 = .ok (.ldiv, 1) := by decide +kernel
theorem dX7_passesOne_43 : decode cX7_passesOne 43 = .ok (.lstore 7, 2) := by decide +kernel
theorem dX7_passesOne_45 : decode cX7_passesOne 45 = .ok (.aload_n 0, 1) := by decide +kernel
theorem dX7_passesOne_46 : decode cX7_passesOne 46 = .ok (.getfield 7, 3) := by decide +kernel
theorem dX7_passesOne_49 : decode cX7_passesOne 49 = .ok (.iload_n 3, 1) := by decide +kernel
theorem dX7_passesOne_50 : decode cX7_passesOne 50 = .ok (.iconst 1, 1) := by decide +kernel
theorem dX7_passesOne_51 : decode cX7_passesOne 51 = .ok (.iadd, 1) := by decide +kernel
theorem dX7_passesOne_52 : decode cX7_passesOne 52 = .ok (.lload 5, 2) := by decide +kernel
theorem dX7_passesOne_54 : decode cX7_passesOne 54 = .ok (.ldc2_w 68, 3) := by decide +kernel
theorem dX7_passesOne_57 : decode cX7_passesOne 57 = .ok (.lrem, 1) := by decide +kernel
theorem dX7_passesOne_58 : decode cX7_passesOne 58 = .ok (.lastore, 1) := by decide +kernel
theorem dX7_passesOne_59 : decode cX7_passesOne 59 = .ok (.aload_n 0, 1) := by decide +kernel
theorem dX7_passesOne_60 : decode cX7_passesOne 60 = .ok (.getfield 7, 3) := by decide +kernel
theorem dX7_passesOne_63 : decode cX7_passesOne 63 = .ok (.iload_n 3, 1) := by decide +kernel
theorem dX7_passesOne_64 : decode cX7_passesOne 64 = .ok (.aload_n 0, 1) := by decide +kernel
theorem dX7_passesOne_65 : decode cX7_passesOne 65 = .ok (.getfield 7, 3) := by decide +kernel
theorem dX7_passesOne_68 : decode cX7_passesOne 68 = .ok (.iload_n 1, 1) := by decide +kernel
theorem dX7_passesOne_69 : decode cX7_passesOne 69 = .ok (.bipush 6, 2) := by decide +kernel
theorem dX7_passesOne_71 : decode cX7_passesOne 71 = .ok (.iadd, 1) := by decide +kernel
theorem dX7_passesOne_72 : decode cX7_passesOne 72 = .ok (.laload, 1) := by decide +kernel
theorem dX7_passesOne_73 : decode cX7_passesOne 73 = .ok (.invokestatic 77, 3) := by decide +kernel
theorem dX7_passesOne_76 : decode cX7_passesOne 76 = .ok (.ifCond .eq 7, 3) := by decide +kernel
theorem dX7_passesOne_79 : decode cX7_passesOne 79 = .ok (.iconst 4, 1) := by decide +kernel
theorem dX7_passesOne_80 : decode cX7_passesOne 80 = .ok (.goto 4, 3) := by decide +kernel
theorem dX7_passesOne_83 : decode cX7_passesOne 83 = .ok (.iconst 3, 1) := by decide +kernel
theorem dX7_passesOne_84 : decode cX7_passesOne 84 = .ok (.iadd, 1) := by decide +kernel
theorem dX7_passesOne_85 : decode cX7_passesOne 85 = .ok (.dup2, 1) := by decide +kernel
theorem dX7_passesOne_86 : decode cX7_passesOne 86 = .ok (.laload, 1) := by decide +kernel
theorem dX7_passesOne_87 : decode cX7_passesOne 87 = .ok (.lload 7, 2) := by decide +kernel
theorem dX7_passesOne_89 : decode cX7_passesOne 89 = .ok (.ladd, 1) := by decide +kernel
theorem dX7_passesOne_90 : decode cX7_passesOne 90 = .ok (.lastore, 1) := by decide +kernel
theorem dX7_passesOne_91 : decode cX7_passesOne 91 = .ok (.aload_n 0, 1) := by decide +kernel
theorem dX7_passesOne_92 : decode cX7_passesOne 92 = .ok (.getfield 7, 3) := by decide +kernel
theorem dX7_passesOne_95 : decode cX7_passesOne 95 = .ok (.iload_n 3, 1) := by decide +kernel
theorem dX7_passesOne_96 : decode cX7_passesOne 96 = .ok (.bipush 9, 2) := by decide +kernel
theorem dX7_passesOne_98 : decode cX7_passesOne 98 = .ok (.iadd, 1) := by decide +kernel
theorem dX7_passesOne_99 : decode cX7_passesOne 99 = .ok (.dup2, 1) := by decide +kernel
theorem dX7_passesOne_100 : decode cX7_passesOne 100 = .ok (.laload, 1) := by decide +kernel
theorem dX7_passesOne_101 : decode cX7_passesOne 101 = .ok (.lconst 1, 1) := by decide +kernel
theorem dX7_passesOne_102 : decode cX7_passesOne 102 = .ok (.ladd, 1) := by decide +kernel
theorem dX7_passesOne_103 : decode cX7_passesOne 103 = .ok (.lastore, 1) := by decide +kernel
theorem dX7_passesOne_104 : decode cX7_passesOne 104 = .ok (.aload_n 0, 1) := by decide +kernel
theorem dX7_passesOne_105 : decode cX7_passesOne 105 = .ok (.getfield 7, 3) := by decide +kernel
theorem dX7_passesOne_108 : decode cX7_passesOne 108 = .ok (.iload_n 3, 1) := by decide +kernel
theorem dX7_passesOne_109 : decode cX7_passesOne 109 = .ok (.bipush 9, 2) := by decide +kernel
theorem dX7_passesOne_111 : decode cX7_passesOne 111 = .ok (.iadd, 1) := by decide +kernel
theorem dX7_passesOne_112 : decode cX7_passesOne 112 = .ok (.laload, 1) := by decide +kernel
theorem dX7_passesOne_113 : decode cX7_passesOne 113 = .ok (.aload_n 0, 1) := by decide +kernel
theorem dX7_passesOne_114 : decode cX7_passesOne 114 = .ok (.getfield 7, 3) := by decide +kernel
theorem dX7_passesOne_117 : decode cX7_passesOne 117 = .ok (.iload_n 1, 1) := by decide +kernel
theorem dX7_passesOne_118 : decode cX7_passesOne 118 = .ok (.iconst 3, 1) := by decide +kernel
theorem dX7_passesOne_119 : decode cX7_passesOne 119 = .ok (.iadd, 1) := by decide +kernel
theorem dX7_passesOne_120 : decode cX7_passesOne 120 = .ok (.laload, 1) := by decide +kernel
theorem dX7_passesOne_121 : decode cX7_passesOne 121 = .ok (.lcmp, 1) := by decide +kernel
theorem dX7_passesOne_122 : decode cX7_passesOne 122 = .ok (.ifCond .lt 44, 3) := by decide +kernel
theorem dX7_passesOne_125 : decode cX7_passesOne 125 = .ok (.aload_n 0, 1) := by decide +kernel
theorem dX7_passesOne_126 : decode cX7_passesOne 126 = .ok (.getfield 7, 3) := by decide +kernel
theorem dX7_passesOne_129 : decode cX7_passesOne 129 = .ok (.iload_n 3, 1) := by decide +kernel
theorem dX7_passesOne_130 : decode cX7_passesOne 130 = .ok (.bipush 9, 2) := by decide +kernel
theorem dX7_passesOne_132 : decode cX7_passesOne 132 = .ok (.iadd, 1) := by decide +kernel
theorem dX7_passesOne_133 : decode cX7_passesOne 133 = .ok (.lconst 0, 1) := by decide +kernel
theorem dX7_passesOne_134 : decode cX7_passesOne 134 = .ok (.lastore, 1) := by decide +kernel
theorem dX7_passesOne_135 : decode cX7_passesOne 135 = .ok (.aload_n 0, 1) := by decide +kernel
theorem dX7_passesOne_136 : decode cX7_passesOne 136 = .ok (.getfield 7, 3) := by decide +kernel
theorem dX7_passesOne_139 : decode cX7_passesOne 139 = .ok (.iload_n 3, 1) := by decide +kernel
theorem dX7_passesOne_140 : decode cX7_passesOne 140 = .ok (.iconst 2, 1) := by decide +kernel
theorem dX7_passesOne_141 : decode cX7_passesOne 141 = .ok (.iadd, 1) := by decide +kernel
theorem dX7_passesOne_142 : decode cX7_passesOne 142 = .ok (.dup2, 1) := by decide +kernel
theorem dX7_passesOne_143 : decode cX7_passesOne 143 = .ok (.laload, 1) := by decide +kernel
theorem dX7_passesOne_144 : decode cX7_passesOne 144 = .ok (.aload_n 0, 1) := by decide +kernel
theorem dX7_passesOne_145 : decode cX7_passesOne 145 = .ok (.getfield 7, 3) := by decide +kernel
theorem dX7_passesOne_148 : decode cX7_passesOne 148 = .ok (.iload_n 3, 1) := by decide +kernel
theorem dX7_passesOne_149 : decode cX7_passesOne 149 = .ok (.iconst 2, 1) := by decide +kernel
theorem dX7_passesOne_150 : decode cX7_passesOne 150 = .ok (.iadd, 1) := by decide +kernel
theorem dX7_passesOne_151 : decode cX7_passesOne 151 = .ok (.laload, 1) := by decide +kernel
theorem dX7_passesOne_152 : decode cX7_passesOne 152 = .ok (.ldc2_w 81, 3) := by decide +kernel
theorem dX7_passesOne_155 : decode cX7_passesOne 155 = .ok (.lcmp, 1) := by decide +kernel
theorem dX7_passesOne_156 : decode cX7_passesOne 156 = .ok (.ifCond .ge 7, 3) := by decide +kernel
theorem dX7_passesOne_159 : decode cX7_passesOne 159 = .ok (.lconst 1, 1) := by decide +kernel
theorem dX7_passesOne_160 : decode cX7_passesOne 160 = .ok (.goto 4, 3) := by decide +kernel
theorem dX7_passesOne_163 : decode cX7_passesOne 163 = .ok (.lconst 0, 1) := by decide +kernel
theorem dX7_passesOne_164 : decode cX7_passesOne 164 = .ok (.ladd, 1) := by decide +kernel
theorem dX7_passesOne_165 : decode cX7_passesOne 165 = .ok (.lastore, 1) := by decide +kernel
theorem dX7_passesOne_166 : decode cX7_passesOne 166 = .ok (.lload 7, 2) := by decide +kernel
theorem dX7_passesOne_168 : decode cX7_passesOne 168 = .ok (.l2i, 1) := by decide +kernel
theorem dX7_passesOne_169 : decode cX7_passesOne 169 = .ok (.ireturn, 1) := by decide +kernel
set_option maxRecDepth 20000 in
theorem ggX7_passes_X7_num : GoodIn wsX7_passes wsX7_num := goodIn_r _ [6, 1, 40, 41, 42, 43, 44, 45, 46] (by decide +kernel) (by decide +kernel)
set_option maxRecDepth 20000 in
theorem gX7_passes_X7_num : GoodIn wsX7_passes (wsV RX7 37 RX7 yX7_num wsX7_num) := goodIn_app (goodIn_of _ (by decide +kernel)) ggX7_passes_X7_num
set_option maxRecDepth 20000 in
theorem ggX7_passes_X7_passesOne : GoodIn wsX7_passes wsX7_passesOne := goodIn_r _ [10, 1, 11, 12, 13, 14, 5, 15, 16, 17, 18, 19, 2, 3, 4, 6, 20, 21, 22, 23, 24, 25, 26, 27, 28, 29, 30, 31, 32, 33, 34, 35, 36, 37, 38, 39, 40, 41, 42, 43, 44, 45, 46] (by decide +kernel) (by decide +kernel)
set_option maxRecDepth 20000 in
theorem gX7_passes_X7_passesOne : GoodIn wsX7_passes (wsV RX7 83 RX7 yX7_passesOne wsX7_passesOne) := goodIn_app (goodIn_of _ (by decide +kernel)) ggX7_passes_X7_passesOne
theorem dX7_passes_0 : decode cX7_passes 0 = .ok (.iconst 0, 1) := by decide +kernel
theorem dX7_passes_1 : decode cX7_passes 1 = .ok (.istore_n 3, 1) := by decide +kernel
theorem dX7_passes_2 : decode cX7_passes 2 = .ok (.iconst 0, 1) := by decide +kernel
theorem dX7_passes_3 : decode cX7_passes 3 = .ok (.istore 4, 2) := by decide +kernel
theorem dX7_passes_5 : decode cX7_passes 5 = .ok (.iload 4, 2) := by decide +kernel
theorem dX7_passes_7 : decode cX7_passes 7 = .ok (.iload_n 2, 1) := by decide +kernel
theorem dX7_passes_8 : decode cX7_passes 8 = .ok (.if_icmp .ge 52, 3) := by decide +kernel
theorem dX7_passes_11 : decode cX7_passes 11 = .ok (.iconst 0, 1) := by decide +kernel
theorem dX7_passes_12 : decode cX7_passes 12 = .ok (.istore 5, 2) := by decide +kernel
theorem dX7_passes_14 : decode cX7_passes 14 = .ok (.iload 5, 2) := by decide +kernel
theorem dX7_passes_16 : decode cX7_passes 16 = .ok (.aload_n 0, 1) := by decide +kernel
theorem dX7_passes_17 : decode cX7_passes 17 = .ok (.bipush 7, 2) := by decide +kernel
theorem dX7_passes_19 : decode cX7_passes 19 = .ok (.invokevirtual 37, 3) := by decide +kernel
theorem dX7_passes_22 : decode cX7_passes 22 = .ok (.if_icmp .ge 19, 3) := by decide +kernel
theorem dX7_passes_25 : decode cX7_passes 25 = .ok (.iload_n 3, 1) := by decide +kernel
theorem dX7_passes_26 : decode cX7_passes 26 = .ok (.aload_n 0, 1) := by decide +kernel
theorem dX7_passes_27 : decode cX7_passes 27 = .ok (.iload_n 1, 1) := by decide +kernel
theorem dX7_passes_28 : decode cX7_passes 28 = .ok (.iload 5, 2) := by decide +kernel
theorem dX7_passes_30 : decode cX7_passes 30 = .ok (.invokevirtual 83, 3) := by decide +kernel
theorem dX7_passes_33 : decode cX7_passes 33 = .ok (.iadd, 1) := by decide +kernel
theorem dX7_passes_34 : decode cX7_passes 34 = .ok (.istore_n 3, 1) := by decide +kernel
theorem dX7_passes_35 : decode cX7_passes 35 = .ok (.iinc 5 1, 3) := by decide +kernel
theorem dX7_passes_38 : decode cX7_passes 38 = .ok (.goto (-24), 3) := by decide +kernel
theorem dX7_passes_41 : decode cX7_passes 41 = .ok (.aload_n 0, 1) := by decide +kernel
theorem dX7_passes_42 : decode cX7_passes 42 = .ok (.getfield 7, 3) := by decide +kernel
theorem dX7_passes_45 : decode cX7_passes 45 = .ok (.iload_n 1, 1) := by decide +kernel
theorem dX7_passes_46 : decode cX7_passes 46 = .ok (.bipush 6, 2) := by decide +kernel
theorem dX7_passes_48 : decode cX7_passes 48 = .ok (.iadd, 1) := by decide +kernel
theorem dX7_passes_49 : decode cX7_passes 49 = .ok (.dup2, 1) := by decide +kernel
theorem dX7_passes_50 : decode cX7_passes 50 = .ok (.laload, 1) := by decide +kernel
theorem dX7_passes_51 : decode cX7_passes 51 = .ok (.lconst 1, 1) := by decide +kernel
theorem dX7_passes_52 : decode cX7_passes 52 = .ok (.ladd, 1) := by decide +kernel
theorem dX7_passes_53 : decode cX7_passes 53 = .ok (.lastore, 1) := by decide +kernel
theorem dX7_passes_54 : decode cX7_passes 54 = .ok (.iinc 4 1, 3) := by decide +kernel
theorem dX7_passes_57 : decode cX7_passes 57 = .ok (.goto (-52), 3) := by decide +kernel
theorem dX7_passes_60 : decode cX7_passes 60 = .ok (.iload_n 3, 1) := by decide +kernel
theorem dX7_passes_61 : decode cX7_passes 61 = .ok (.ireturn, 1) := by decide +kernel
theorem dX7_lowOf_0 : decode cX7_lowOf 0 = .ok (.iload_n 0, 1) := by decide +kernel
theorem dX7_lowOf_1 : decode cX7_lowOf 1 = .ok (.iconst 3, 1) := by decide +kernel
theorem dX7_lowOf_2 : decode cX7_lowOf 2 = .ok (.if_icmp .ne 8, 3) := by decide +kernel
theorem dX7_lowOf_5 : decode cX7_lowOf 5 = .ok (.bipush 100, 2) := by decide +kernel
theorem dX7_lowOf_7 : decode cX7_lowOf 7 = .ok (.goto 4, 3) := by decide +kernel
theorem dX7_lowOf_10 : decode cX7_lowOf 10 = .ok (.iconst 0, 1) := by decide +kernel
theorem dX7_lowOf_11 : decode cX7_lowOf 11 = .ok (.ireturn, 1) := by decide +kernel
theorem dX7_highOf_0 : decode cX7_highOf 0 = .ok (.iload_n 0, 1) := by decide +kernel
theorem dX7_highOf_1 : decode cX7_highOf 1 = .ok (.tableswitch 36 1 3 #[27, 30, 32], 27) := by decide +kernel
theorem dX7_highOf_28 : decode cX7_highOf 28 = .ok (.bipush 9, 2) := by decide +kernel
theorem dX7_highOf_30 : decode cX7_highOf 30 = .ok (.ireturn, 1) := by decide +kernel
theorem dX7_highOf_31 : decode cX7_highOf 31 = .ok (.iconst 1, 1) := by decide +kernel
theorem dX7_highOf_32 : decode cX7_highOf 32 = .ok (.ireturn, 1) := by decide +kernel
theorem dX7_highOf_33 : decode cX7_highOf 33 = .ok (.sipush 5000, 3) := by decide +kernel
theorem dX7_highOf_36 : decode cX7_highOf 36 = .ok (.ireturn, 1) := by decide +kernel
theorem dX7_highOf_37 : decode cX7_highOf 37 = .ok (.bipush 99, 2) := by decide +kernel
theorem dX7_highOf_39 : decode cX7_highOf 39 = .ok (.ireturn, 1) := by decide +kernel
set_option maxRecDepth 20000 in
theorem ggX7_set_X7_in : GoodIn wsX7_set wsX7_in := goodIn_r _ [5] (by decide +kernel) (by decide +kernel)
set_option maxRecDepth 20000 in
theorem gX7_set_X7_in : GoodIn wsX7_set (va_wsS RX7 41 yX7_in wsX7_in) := goodIn_app (goodIn_of _ (by decide +kernel)) ggX7_set_X7_in
set_option maxRecDepth 20000 in
theorem ggX7_set_X7_lowOf : GoodIn wsX7_set wsX7_lowOf := goodIn_r _ [8] (by decide +kernel) (by decide +kernel)
set_option maxRecDepth 20000 in
theorem gX7_set_X7_lowOf : GoodIn wsX7_set (va_wsS RX7 86 yX7_lowOf wsX7_lowOf) := goodIn_app (goodIn_of _ (by decide +kernel)) ggX7_set_X7_lowOf
set_option maxRecDepth 20000 in
theorem ggX7_set_X7_highOf : GoodIn wsX7_set wsX7_highOf := goodIn_r _ [11] (by decide +kernel) (by decide +kernel)
set_option maxRecDepth 20000 in
theorem gX7_set_X7_highOf : GoodIn wsX7_set (va_wsS RX7 89 yX7_highOf wsX7_highOf) := goodIn_app (goodIn_of _ (by decide +kernel)) ggX7_set_X7_highOf
set_option maxRecDepth 20000 in
theorem ggX7_set_X7_remembers : GoodIn wsX7_set wsX7_remembers := goodIn_r _ [15, 16, 17, 1, 22, 23, 24, 25, 26, 27, 28] (by decide +kernel) (by decide +kernel)
set_option maxRecDepth 20000 in
theorem gX7_set_X7_remembers : GoodIn wsX7_set (wsV RX7 92 RX7 yX7_remembers wsX7_remembers) := goodIn_app (goodIn_of _ (by decide +kernel)) ggX7_set_X7_remembers
set_option maxRecDepth 20000 in
theorem ggX7_set_X7_num : GoodIn wsX7_set wsX7_num := goodIn_r _ [21, 1, 22, 23, 24, 25, 26, 27, 28] (by decide +kernel) (by decide +kernel)
set_option maxRecDepth 20000 in
theorem gX7_set_X7_num : GoodIn wsX7_set (wsV RX7 37 RX7 yX7_num wsX7_num) := goodIn_app (goodIn_of _ (by decide +kernel)) ggX7_set_X7_num
theorem dX7_set_0 : decode cX7_set 0 = .ok (.iload_n 1, 1) := by decide +kernel
theorem dX7_set_1 : decode cX7_set 1 = .ok (.iconst 0, 1) := by decide +kernel
theorem dX7_set_2 : decode cX7_set 2 = .ok (.iconst 5, 1) := by decide +kernel
theorem dX7_set_3 : decode cX7_set 3 = .ok (.invokestatic 41, 3) := by decide +kernel
theorem dX7_set_6 : decode cX7_set 6 = .ok (.ifCond .eq 18, 3) := by decide +kernel
theorem dX7_set_9 : decode cX7_set 9 = .ok (.iload_n 2, 1) := by decide +kernel
theorem dX7_set_10 : decode cX7_set 10 = .ok (.iload_n 1, 1) := by decide +kernel
theorem dX7_set_11 : decode cX7_set 11 = .ok (.invokestatic 86, 3) := by decide +kernel
theorem dX7_set_14 : decode cX7_set 14 = .ok (.iload_n 1, 1) := by decide +kernel
theorem dX7_set_15 : decode cX7_set 15 = .ok (.invokestatic 89, 3) := by decide +kernel
theorem dX7_set_18 : decode cX7_set 18 = .ok (.invokestatic 41, 3) := by decide +kernel
theorem dX7_set_21 : decode cX7_set 21 = .ok (.ifCond .ne 6, 3) := by decide +kernel
theorem dX7_set_24 : decode cX7_set 24 = .ok (.bipush (-2), 2) := by decide +kernel
theorem dX7_set_26 : decode cX7_set 26 = .ok (.ireturn, 1) := by decide +kernel
theorem dX7_set_27 : decode cX7_set 27 = .ok (.aload_n 0, 1) := by decide +kernel
theorem dX7_set_28 : decode cX7_set 28 = .ok (.invokevirtual 92, 3) := by decide +kernel
theorem dX7_set_31 : decode cX7_set 31 = .ok (.aload_n 0, 1) := by decide +kernel
theorem dX7_set_32 : decode cX7_set 32 = .ok (.iload_n 1, 1) := by decide +kernel
theorem dX7_set_33 : decode cX7_set 33 = .ok (.invokevirtual 37, 3) := by decide +kernel
theorem dX7_set_36 : decode cX7_set 36 = .ok (.istore_n 3, 1) := by decide +kernel
theorem dX7_set_37 : decode cX7_set 37 = .ok (.aload_n 0, 1) := by decide +kernel
theorem dX7_set_38 : decode cX7_set 38 = .ok (.getfield 7, 3) := by decide +kernel
theorem dX7_set_41 : decode cX7_set 41 = .ok (.iload_n 1, 1) := by decide +kernel
theorem dX7_set_42 : decode cX7_set 42 = .ok (.iload_n 2, 1) := by decide +kernel
theorem dX7_set_43 : decode cX7_set 43 = .ok (.i2l, 1) := by decide +kernel
theorem dX7_set_44 : decode cX7_set 44 = .ok (.lastore, 1) := by decide +kernel
theorem dX7_set_45 : decode cX7_set 45 = .ok (.iload_n 3, 1) := by decide +kernel
theorem dX7_set_46 : decode cX7_set 46 = .ok (.ireturn, 1) := by decide +kernel
set_option maxRecDepth 20000 in
theorem ggX7_whyNotMeter_X7_num : GoodIn wsX7_whyNotMeter wsX7_num := goodIn_r _ [5, 6, 14, 15, 16, 17, 18, 19, 20] (by decide +kernel) (by decide +kernel)
set_option maxRecDepth 20000 in
theorem gX7_whyNotMeter_X7_num : GoodIn wsX7_whyNotMeter (wsV RX7 37 RX7 yX7_num wsX7_num) := goodIn_app (goodIn_of _ (by decide +kernel)) ggX7_whyNotMeter_X7_num
set_option maxRecDepth 20000 in
theorem ggX7_whyNotMeter_X7_isMeter : GoodIn wsX7_whyNotMeter wsX7_isMeter := goodIn_r _ [10, 1, 2, 3, 4, 5, 6, 11, 12, 13, 14, 15, 16, 17, 18, 19, 20] (by decide +kernel) (by decide +kernel)
set_option maxRecDepth 20000 in
theorem gX7_whyNotMeter_X7_isMeter : GoodIn wsX7_whyNotMeter (wsV RX7 95 RX7 yX7_isMeter wsX7_isMeter) := goodIn_app (goodIn_of _ (by decide +kernel)) ggX7_whyNotMeter_X7_isMeter
theorem dX7_whyNotMeter_0 : decode cX7_whyNotMeter 0 = .ok (.aload_n 0, 1) := by decide +kernel
theorem dX7_whyNotMeter_1 : decode cX7_whyNotMeter 1 = .ok (.bipush 7, 2) := by decide +kernel
theorem dX7_whyNotMeter_3 : decode cX7_whyNotMeter 3 = .ok (.invokevirtual 37, 3) := by decide +kernel
theorem dX7_whyNotMeter_6 : decode cX7_whyNotMeter 6 = .ok (.ifCond .le 15, 3) := by decide +kernel
theorem dX7_whyNotMeter_9 : decode cX7_whyNotMeter 9 = .ok (.aload_n 0, 1) := by decide +kernel
theorem dX7_whyNotMeter_10 : decode cX7_whyNotMeter 10 = .ok (.iload_n 1, 1) := by decide +kernel
theorem dX7_whyNotMeter_11 : decode cX7_whyNotMeter 11 = .ok (.invokevirtual 95, 3) := by decide +kernel
theorem dX7_whyNotMeter_14 : decode cX7_whyNotMeter 14 = .ok (.ifCond .ne 7, 3) := by decide +kernel
theorem dX7_whyNotMeter_17 : decode cX7_whyNotMeter 17 = .ok (.iconst (-1), 1) := by decide +kernel
theorem dX7_whyNotMeter_18 : decode cX7_whyNotMeter 18 = .ok (.goto 20, 3) := by decide +kernel
theorem dX7_whyNotMeter_21 : decode cX7_whyNotMeter 21 = .ok (.aload_n 0, 1) := by decide +kernel
theorem dX7_whyNotMeter_22 : decode cX7_whyNotMeter 22 = .ok (.bipush 7, 2) := by decide +kernel
theorem dX7_whyNotMeter_24 : decode cX7_whyNotMeter 24 = .ok (.invokevirtual 37, 3) := by decide +kernel
theorem dX7_whyNotMeter_27 : decode cX7_whyNotMeter 27 = .ok (.bipush 7, 2) := by decide +kernel
theorem dX7_whyNotMeter_29 : decode cX7_whyNotMeter 29 = .ok (.if_icmp .ne 8, 3) := by decide +kernel
theorem dX7_whyNotMeter_32 : decode cX7_whyNotMeter 32 = .ok (.bipush (-4), 2) := by decide +kernel
theorem dX7_whyNotMeter_34 : decode cX7_whyNotMeter 34 = .ok (.goto 4, 3) := by decide +kernel
theorem dX7_whyNotMeter_37 : decode cX7_whyNotMeter 37 = .ok (.iconst 0, 1) := by decide +kernel
theorem dX7_whyNotMeter_38 : decode cX7_whyNotMeter 38 = .ok (.ireturn, 1) := by decide +kernel
set_option maxRecDepth 20000 in
theorem ggX7_comes_X7_num : GoodIn wsX7_comes wsX7_num := goodIn_r _ [8, 1, 12, 13, 14, 15, 16, 17, 18] (by decide +kernel) (by decide +kernel)
set_option maxRecDepth 20000 in
theorem gX7_comes_X7_num : GoodIn wsX7_comes (wsV RX7 37 RX7 yX7_num wsX7_num) := goodIn_app (goodIn_of _ (by decide +kernel)) ggX7_comes_X7_num
set_option maxRecDepth 20000 in
theorem ggX7_comes_X7_at : GoodIn wsX7_comes wsX7_at := goodIn_r _ [11] (by decide +kernel) (by decide +kernel)
set_option maxRecDepth 20000 in
theorem gX7_comes_X7_at : GoodIn wsX7_comes (va_wsS RX7 45 yX7_at wsX7_at) := goodIn_app (goodIn_of _ (by decide +kernel)) ggX7_comes_X7_at
theorem dX7_comes_0 : decode cX7_comes 0 = .ok (.iconst 0, 1) := by decide +kernel
theorem dX7_comes_1 : decode cX7_comes 1 = .ok (.aload_n 0, 1) := by decide +kernel
theorem dX7_comes_2 : decode cX7_comes 2 = .ok (.bipush 7, 2) := by decide +kernel
theorem dX7_comes_4 : decode cX7_comes 4 = .ok (.invokevirtual 37, 3) := by decide +kernel
theorem dX7_comes_7 : decode cX7_comes 7 = .ok (.invokestatic 45, 3) := by decide +kernel
theorem dX7_comes_10 : decode cX7_comes 10 = .ok (.istore_n 2, 1) := by decide +kernel
theorem dX7_comes_11 : decode cX7_comes 11 = .ok (.iconst 0, 1) := by decide +kernel
theorem dX7_comes_12 : decode cX7_comes 12 = .ok (.istore_n 3, 1) := by decide +kernel
theorem dX7_comes_13 : decode cX7_comes 13 = .ok (.iload_n 3, 1) := by decide +kernel
theorem dX7_comes_14 : decode cX7_comes 14 = .ok (.bipush 13, 2) := by decide +kernel
theorem dX7_comes_16 : decode cX7_comes 16 = .ok (.if_icmp .ge 18, 3) := by decide +kernel
theorem dX7_comes_19 : decode cX7_comes 19 = .ok (.aload_n 0, 1) := by decide +kernel
theorem dX7_comes_20 : decode cX7_comes 20 = .ok (.getfield 7, 3) := by decide +kernel
theorem dX7_comes_23 : decode cX7_comes 23 = .ok (.iload_n 2, 1) := by decide +kernel
theorem dX7_comes_24 : decode cX7_comes 24 = .ok (.iload_n 3, 1) := by decide +kernel
theorem dX7_comes_25 : decode cX7_comes 25 = .ok (.iadd, 1) := by decide +kernel
theorem dX7_comes_26 : decode cX7_comes 26 = .ok (.lconst 0, 1) := by decide +kernel
theorem dX7_comes_27 : decode cX7_comes 27 = .ok (.lastore, 1) := by decide +kernel
theorem dX7_comes_28 : decode cX7_comes 28 = .ok (.iinc 3 1, 3) := by decide +kernel
theorem dX7_comes_31 : decode cX7_comes 31 = .ok (.goto (-18), 3) := by decide +kernel
theorem dX7_comes_34 : decode cX7_comes 34 = .ok (.aload_n 0, 1) := by decide +kernel
theorem dX7_comes_35 : decode cX7_comes 35 = .ok (.getfield 7, 3) := by decide +kernel
theorem dX7_comes_38 : decode cX7_comes 38 = .ok (.bipush 10, 2) := by decide +kernel
theorem dX7_comes_40 : decode cX7_comes 40 = .ok (.dup2, 1) := by decide +kernel
theorem dX7_comes_41 : decode cX7_comes 41 = .ok (.laload, 1) := by decide +kernel
theorem dX7_comes_42 : decode cX7_comes 42 = .ok (.lconst 1, 1) := by decide +kernel
theorem dX7_comes_43 : decode cX7_comes 43 = .ok (.ladd, 1) := by decide +kernel
theorem dX7_comes_44 : decode cX7_comes 44 = .ok (.lastore, 1) := by decide +kernel
theorem dX7_comes_45 : decode cX7_comes 45 = .ok (.aload_n 0, 1) := by decide +kernel
theorem dX7_comes_46 : decode cX7_comes 46 = .ok (.getfield 7, 3) := by decide +kernel
theorem dX7_comes_49 : decode cX7_comes 49 = .ok (.iload_n 2, 1) := by decide +kernel
theorem dX7_comes_50 : decode cX7_comes 50 = .ok (.iconst 0, 1) := by decide +kernel
theorem dX7_comes_51 : decode cX7_comes 51 = .ok (.iadd, 1) := by decide +kernel
theorem dX7_comes_52 : decode cX7_comes 52 = .ok (.aload_n 0, 1) := by decide +kernel
theorem dX7_comes_53 : decode cX7_comes 53 = .ok (.bipush 7, 2) := by decide +kernel
theorem dX7_comes_55 : decode cX7_comes 55 = .ok (.invokevirtual 37, 3) := by decide +kernel
theorem dX7_comes_58 : decode cX7_comes 58 = .ok (.ifCond .ne 9, 3) := by decide +kernel
theorem dX7_comes_61 : decode cX7_comes 61 = .ok (.ldc2_w 99, 3) := by decide +kernel
theorem dX7_comes_64 : decode cX7_comes 64 = .ok (.goto 5, 3) := by decide +kernel
theorem dX7_comes_67 : decode cX7_comes 67 = .ok (.iload_n 1, 1) := by decide +kernel
theorem dX7_comes_68 : decode cX7_comes 68 = .ok (.i2l, 1) := by decide +kernel
theorem dX7_comes_69 : decode cX7_comes 69 = .ok (.lastore, 1) := by decide +kernel
theorem dX7_comes_70 : decode cX7_comes 70 = .ok (.aload_n 0, 1) := by decide +kernel
theorem dX7_comes_71 : decode cX7_comes 71 = .ok (.getfield 7, 3) := by decide +kernel
theorem dX7_comes_74 : decode cX7_comes 74 = .ok (.iload_n 2, 1) := by decide +kernel
theorem dX7_comes_75 : decode cX7_comes 75 = .ok (.iconst 2, 1) := by decide +kernel
theorem dX7_comes_76 : decode cX7_comes 76 = .ok (.iadd, 1) := by decide +kernel
theorem dX7_comes_77 : decode cX7_comes 77 = .ok (.ldc2_w 66, 3) := by decide +kernel
theorem dX7_comes_80 : decode cX7_comes 80 = .ok (.lastore, 1) := by decide +kernel
theorem dX7_comes_81 : decode cX7_comes 81 = .ok (.aload_n 0, 1) := by decide +kernel
theorem dX7_comes_82 : decode cX7_comes 82 = .ok (.getfield 7, 3) := by decide +kernel
theorem dX7_comes_85 : decode cX7_comes 85 = .ok (.iload_n 2, 1) := by decide +kernel
theorem dX7_comes_86 : decode cX7_comes 86 = .ok (.bipush 6, 2) := by decide +kernel
theorem dX7_comes_88 : decode cX7_comes 88 = .ok (.iadd, 1) := by decide +kernel
theorem dX7_comes_89 : decode cX7_comes 89 = .ok (.aload_n 0, 1) := by decide +kernel
theorem dX7_comes_90 : decode cX7_comes 90 = .ok (.getfield 7, 3) := by decide +kernel
theorem dX7_comes_93 : decode cX7_comes 93 = .ok (.bipush 10, 2) := by decide +kernel
theorem dX7_comes_95 : decode cX7_comes 95 = .ok (.laload, 1) := by decide +kernel
theorem dX7_comes_96 : decode cX7_comes 96 = .ok (.lastore, 1) := by decide +kernel
theorem dX7_comes_97 : decode cX7_comes 97 = .ok (.aload_n 0, 1) := by decide +kernel
theorem dX7_comes_98 : decode cX7_comes 98 = .ok (.getfield 7, 3) := by decide +kernel
theorem dX7_comes_101 : decode cX7_comes 101 = .ok (.bipush 7, 2) := by decide +kernel
theorem dX7_comes_103 : decode cX7_comes 103 = .ok (.dup2, 1) := by decide +kernel
theorem dX7_comes_104 : decode cX7_comes 104 = .ok (.laload, 1) := by decide +kernel
theorem dX7_comes_105 : decode cX7_comes 105 = .ok (.lconst 1, 1) := by decide +kernel
theorem dX7_comes_106 : decode cX7_comes 106 = .ok (.ladd, 1) := by decide +kernel
theorem dX7_comes_107 : decode cX7_comes 107 = .ok (.lastore, 1) := by decide +kernel
theorem dX7_comes_108 : decode cX7_comes 108 = .ok (.aload_n 0, 1) := by decide +kernel
theorem dX7_comes_109 : decode cX7_comes 109 = .ok (.bipush 7, 2) := by decide +kernel
theorem dX7_comes_111 : decode cX7_comes 111 = .ok (.invokevirtual 37, 3) := by decide +kernel
theorem dX7_comes_114 : decode cX7_comes 114 = .ok (.iconst 1, 1) := by decide +kernel
theorem dX7_comes_115 : decode cX7_comes 115 = .ok (.isub, 1) := by decide +kernel
theorem dX7_comes_116 : decode cX7_comes 116 = .ok (.ireturn, 1) := by decide +kernel
set_option maxRecDepth 20000 in
theorem ggX7_meter_X7_whyNotMeter : GoodIn wsX7_meter wsX7_whyNotMeter := goodIn_r _ [5, 6, 7, 8, 4, 9, 10, 11, 12, 13, 14, 15, 16, 17, 33, 34, 35, 36, 37, 38, 39] (by decide +kernel) (by decide +kernel)
set_option maxRecDepth 20000 in
theorem gX7_meter_X7_whyNotMeter : GoodIn wsX7_meter (wsV RX7 101 RX7 yX7_whyNotMeter wsX7_whyNotMeter) := goodIn_app (goodIn_of _ (by decide +kernel)) ggX7_meter_X7_whyNotMeter
set_option maxRecDepth 20000 in
theorem ggX7_meter_X7_remembers : GoodIn wsX7_meter wsX7_remembers := goodIn_r _ [21, 22, 23, 10, 33, 34, 35, 36, 37, 38, 39] (by decide +kernel) (by decide +kernel)
set_option maxRecDepth 20000 in
theorem gX7_meter_X7_remembers : GoodIn wsX7_meter (wsV RX7 92 RX7 yX7_remembers wsX7_remembers) := goodIn_app (goodIn_of _ (by decide +kernel)) ggX7_meter_X7_remembers
set_option maxRecDepth 20000 in
theorem ggX7_meter_X7_comes : GoodIn wsX7_meter wsX7_comes := goodIn_r _ [27, 10, 28, 29, 6, 7, 8, 4, 9, 30, 31, 32, 33, 34, 35, 36, 37, 38, 39] (by decide +kernel) (by decide +kernel)
set_option maxRecDepth 20000 in
theorem gX7_meter_X7_comes : GoodIn wsX7_meter (wsV RX7 104 RX7 yX7_comes wsX7_comes) := goodIn_app (goodIn_of _ (by decide +kernel)) ggX7_meter_X7_comes
theorem dX7_meter_0 : decode cX7_meter 0 = .ok (.aload_n 0, 1) := by decide +kernel
theorem dX7_meter_1 : decode cX7_meter 1 = .ok (.iload_n 1, 1) := by decide +kernel
theorem dX7_meter_2 : decode cX7_meter 2 = .ok (.invokevirtual 101, 3) := by decide +kernel
theorem dX7_meter_5 : decode cX7_meter 5 = .ok (.istore_n 2, 1) := by decide +kernel
theorem dX7_meter_6 : decode cX7_meter 6 = .ok (.iload_n 2, 1) := by decide +kernel
theorem dX7_meter_7 : decode cX7_meter 7 = .ok (.ifCond .ge 5, 3) := by decide +kernel
theorem dX7_meter_10 : decode cX7_meter 10 = .ok (.iload_n 2, 1) := by decide +kernel
theorem dX7_meter_11 : decode cX7_meter 11 = .ok (.ireturn, 1) := by decide +kernel
theorem dX7_meter_12 : decode cX7_meter 12 = .ok (.aload_n 0, 1) := by decide +kernel
theorem dX7_meter_13 : decode cX7_meter 13 = .ok (.invokevirtual 92, 3) := by decide +kernel
theorem dX7_meter_16 : decode cX7_meter 16 = .ok (.aload_n 0, 1) := by decide +kernel
theorem dX7_meter_17 : decode cX7_meter 17 = .ok (.iload_n 1, 1) := by decide +kernel
theorem dX7_meter_18 : decode cX7_meter 18 = .ok (.invokevirtual 104, 3) := by decide +kernel
theorem dX7_meter_21 : decode cX7_meter 21 = .ok (.ireturn, 1) := by decide +kernel
set_option maxRecDepth 20000 in
theorem ggX7_whyNotLoad_X7_isMeter : GoodIn wsX7_whyNotLoad wsX7_isMeter := goodIn_r _ [5, 6, 7, 8, 4, 9, 10, 11, 12, 13, 14, 15, 16, 17, 18, 19, 20] (by decide +kernel) (by decide +kernel)
set_option maxRecDepth 20000 in
theorem gX7_whyNotLoad_X7_isMeter : GoodIn wsX7_whyNotLoad (wsV RX7 95 RX7 yX7_isMeter wsX7_isMeter) := goodIn_app (goodIn_of _ (by decide +kernel)) ggX7_whyNotLoad_X7_isMeter
set_option maxRecDepth 20000 in
theorem ggX7_whyNotLoad_X7_in : GoodIn wsX7_whyNotLoad wsX7_in := goodIn_r _ [13] (by decide +kernel) (by decide +kernel)
set_option maxRecDepth 20000 in
theorem gX7_whyNotLoad_X7_in : GoodIn wsX7_whyNotLoad (va_wsS RX7 41 yX7_in wsX7_in) := goodIn_app (goodIn_of _ (by decide +kernel)) ggX7_whyNotLoad_X7_in
set_option maxRecDepth 20000 in
theorem ggX7_whyNotLoad_X7_num : GoodIn wsX7_whyNotLoad wsX7_num := goodIn_r _ [9, 10, 14, 15, 16, 17, 18, 19, 20] (by decide +kernel) (by decide +kernel)
set_option maxRecDepth 20000 in
theorem gX7_whyNotLoad_X7_num : GoodIn wsX7_whyNotLoad (wsV RX7 37 RX7 yX7_num wsX7_num) := goodIn_app (goodIn_of _ (by decide +kernel)) ggX7_whyNotLoad_X7_num
theorem dX7_whyNotLoad_0 : decode cX7_whyNotLoad 0 = .ok (.aload_n 0, 1) := by decide +kernel
theorem dX7_whyNotLoad_1 : decode cX7_whyNotLoad 1 = .ok (.iload_n 1, 1) := by decide +kernel
theorem dX7_whyNotLoad_2 : decode cX7_whyNotLoad 2 = .ok (.invokevirtual 95, 3) := by decide +kernel
theorem dX7_whyNotLoad_5 : decode cX7_whyNotLoad 5 = .ok (.ifCond .ne 7, 3) := by decide +kernel
theorem dX7_whyNotLoad_8 : decode cX7_whyNotLoad 8 = .ok (.iconst (-1), 1) := by decide +kernel
theorem dX7_whyNotLoad_9 : decode cX7_whyNotLoad 9 = .ok (.goto 36, 3) := by decide +kernel
theorem dX7_whyNotLoad_12 : decode cX7_whyNotLoad 12 = .ok (.iload_n 2, 1) := by decide +kernel
theorem dX7_whyNotLoad_13 : decode cX7_whyNotLoad 13 = .ok (.iconst 1, 1) := by decide +kernel
theorem dX7_whyNotLoad_14 : decode cX7_whyNotLoad 14 = .ok (.sipush 4000, 3) := by decide +kernel
theorem dX7_whyNotLoad_17 : decode cX7_whyNotLoad 17 = .ok (.invokestatic 41, 3) := by decide +kernel
theorem dX7_whyNotLoad_20 : decode cX7_whyNotLoad 20 = .ok (.ifCond .ne 8, 3) := by decide +kernel
theorem dX7_whyNotLoad_23 : decode cX7_whyNotLoad 23 = .ok (.bipush (-2), 2) := by decide +kernel
theorem dX7_whyNotLoad_25 : decode cX7_whyNotLoad 25 = .ok (.goto 20, 3) := by decide +kernel
theorem dX7_whyNotLoad_28 : decode cX7_whyNotLoad 28 = .ok (.aload_n 0, 1) := by decide +kernel
theorem dX7_whyNotLoad_29 : decode cX7_whyNotLoad 29 = .ok (.bipush 8, 2) := by decide +kernel
theorem dX7_whyNotLoad_31 : decode cX7_whyNotLoad 31 = .ok (.invokevirtual 37, 3) := by decide +kernel
theorem dX7_whyNotLoad_34 : decode cX7_whyNotLoad 34 = .ok (.bipush 12, 2) := by decide +kernel
theorem dX7_whyNotLoad_36 : decode cX7_whyNotLoad 36 = .ok (.if_icmp .ne 8, 3) := by decide +kernel
theorem dX7_whyNotLoad_39 : decode cX7_whyNotLoad 39 = .ok (.bipush (-4), 2) := by decide +kernel
theorem dX7_whyNotLoad_41 : decode cX7_whyNotLoad 41 = .ok (.goto 4, 3) := by decide +kernel
theorem dX7_whyNotLoad_44 : decode cX7_whyNotLoad 44 = .ok (.iconst 0, 1) := by decide +kernel
theorem dX7_whyNotLoad_45 : decode cX7_whyNotLoad 45 = .ok (.ireturn, 1) := by decide +kernel
set_option maxRecDepth 20000 in
theorem ggX7_loads_X7_num : GoodIn wsX7_loads wsX7_num := goodIn_r _ [6, 1, 7, 8, 9, 10, 11, 12, 13] (by decide +kernel) (by decide +kernel)
set_option maxRecDepth 20000 in
theorem gX7_loads_X7_num : GoodIn wsX7_loads (wsV RX7 37 RX7 yX7_num wsX7_num) := goodIn_app (goodIn_of _ (by decide +kernel)) ggX7_loads_X7_num
theorem dX7_loads_0 : decode cX7_loads 0 = .ok (.bipush 102, 2) := by decide +kernel
theorem dX7_loads_2 : decode cX7_loads 2 = .ok (.iconst 3, 1) := by decide +kernel
theorem dX7_loads_3 : decode cX7_loads 3 = .ok (.aload_n 0, 1) := by decide +kernel
theorem dX7_loads_4 : decode cX7_loads 4 = .ok (.bipush 8, 2) := by decide +kernel
theorem dX7_loads_6 : decode cX7_loads 6 = .ok (.invokevirtual 37, 3) := by decide +kernel
theorem dX7_loads_9 : decode cX7_loads 9 = .ok (.imul, 1) := by decide +kernel
theorem dX7_loads_10 : decode cX7_loads 10 = .ok (.iadd, 1) := by decide +kernel
theorem dX7_loads_11 : decode cX7_loads 11 = .ok (.istore_n 3, 1) := by decide +kernel
theorem dX7_loads_12 : decode cX7_loads 12 = .ok (.aload_n 0, 1) := by decide +kernel
theorem dX7_loads_13 : decode cX7_loads 13 = .ok (.getfield 7, 3) := by decide +kernel
theorem dX7_loads_16 : decode cX7_loads 16 = .ok (.iload_n 3, 1) := by decide +kernel
theorem dX7_loads_17 : decode cX7_loads 17 = .ok (.iload_n 1, 1) := by decide +kernel
theorem dX7_loads_18 : decode cX7_loads 18 = .ok (.i2l, 1) := by decide +kernel
theorem dX7_loads_19 : decode cX7_loads 19 = .ok (.lastore, 1) := by decide +kernel
theorem dX7_loads_20 : decode cX7_loads 20 = .ok (.aload_n 0, 1) := by decide +kernel
theorem dX7_loads_21 : decode cX7_loads 21 = .ok (.getfield 7, 3) := by decide +kernel
theorem dX7_loads_24 : decode cX7_loads 24 = .ok (.iload_n 3, 1) := by decide +kernel
theorem dX7_loads_25 : decode cX7_loads 25 = .ok (.iconst 1, 1) := by decide +kernel
theorem dX7_loads_26 : decode cX7_loads 26 = .ok (.iadd, 1) := by decide +kernel
theorem dX7_loads_27 : decode cX7_loads 27 = .ok (.iload_n 2, 1) := by decide +kernel
theorem dX7_loads_28 : decode cX7_loads 28 = .ok (.i2l, 1) := by decide +kernel
theorem dX7_loads_29 : decode cX7_loads 29 = .ok (.lastore, 1) := by decide +kernel
theorem dX7_loads_30 : decode cX7_loads 30 = .ok (.aload_n 0, 1) := by decide +kernel
theorem dX7_loads_31 : decode cX7_loads 31 = .ok (.getfield 7, 3) := by decide +kernel
theorem dX7_loads_34 : decode cX7_loads 34 = .ok (.iload_n 3, 1) := by decide +kernel
theorem dX7_loads_35 : decode cX7_loads 35 = .ok (.iconst 2, 1) := by decide +kernel
theorem dX7_loads_36 : decode cX7_loads 36 = .ok (.iadd, 1) := by decide +kernel
theorem dX7_loads_37 : decode cX7_loads 37 = .ok (.lconst 0, 1) := by decide +kernel
theorem dX7_loads_38 : decode cX7_loads 38 = .ok (.lastore, 1) := by decide +kernel
theorem dX7_loads_39 : decode cX7_loads 39 = .ok (.aload_n 0, 1) := by decide +kernel
theorem dX7_loads_40 : decode cX7_loads 40 = .ok (.getfield 7, 3) := by decide +kernel
theorem dX7_loads_43 : decode cX7_loads 43 = .ok (.bipush 8, 2) := by decide +kernel
theorem dX7_loads_45 : decode cX7_loads 45 = .ok (.dup2, 1) := by decide +kernel
theorem dX7_loads_46 : decode cX7_loads 46 = .ok (.laload, 1) := by decide +kernel
theorem dX7_loads_47 : decode cX7_loads 47 = .ok (.lconst 1, 1) := by decide +kernel
theorem dX7_loads_48 : decode cX7_loads 48 = .ok (.ladd, 1) := by decide +kernel
theorem dX7_loads_49 : decode cX7_loads 49 = .ok (.lastore, 1) := by decide +kernel
theorem dX7_loads_50 : decode cX7_loads 50 = .ok (.aload_n 0, 1) := by decide +kernel
theorem dX7_loads_51 : decode cX7_loads 51 = .ok (.bipush 8, 2) := by decide +kernel
theorem dX7_loads_53 : decode cX7_loads 53 = .ok (.invokevirtual 37, 3) := by decide +kernel
theorem dX7_loads_56 : decode cX7_loads 56 = .ok (.iconst 1, 1) := by decide +kernel
theorem dX7_loads_57 : decode cX7_loads 57 = .ok (.isub, 1) := by decide +kernel
theorem dX7_loads_58 : decode cX7_loads 58 = .ok (.ireturn, 1) := by decide +kernel
set_option maxRecDepth 20000 in
theorem ggX7_load_X7_whyNotLoad : GoodIn wsX7_load wsX7_whyNotLoad := goodIn_r _ [5, 6, 7, 8, 4, 9, 10, 11, 12, 13, 14, 15, 16, 17, 28, 29, 30, 31, 32, 33, 34] (by decide +kernel) (by decide +kernel)
set_option maxRecDepth 20000 in
theorem gX7_load_X7_whyNotLoad : GoodIn wsX7_load (wsV RX7 107 RX7 yX7_whyNotLoad wsX7_whyNotLoad) := goodIn_app (goodIn_of _ (by decide +kernel)) ggX7_load_X7_whyNotLoad
set_option maxRecDepth 20000 in
theorem ggX7_load_X7_remembers : GoodIn wsX7_load wsX7_remembers := goodIn_r _ [21, 22, 23, 14, 28, 29, 30, 31, 32, 33, 34] (by decide +kernel) (by decide +kernel)
set_option maxRecDepth 20000 in
theorem gX7_load_X7_remembers : GoodIn wsX7_load (wsV RX7 92 RX7 yX7_remembers wsX7_remembers) := goodIn_app (goodIn_of _ (by decide +kernel)) ggX7_load_X7_remembers
set_option maxRecDepth 20000 in
theorem ggX7_load_X7_loads : GoodIn wsX7_load wsX7_loads := goodIn_r _ [27, 14, 10, 11, 12, 4, 13, 28, 29, 30, 31, 32, 33, 34] (by decide +kernel) (by decide +kernel)
set_option maxRecDepth 20000 in
theorem gX7_load_X7_loads : GoodIn wsX7_load (wsV RX7 110 RX7 yX7_loads wsX7_loads) := goodIn_app (goodIn_of _ (by decide +kernel)) ggX7_load_X7_loads
theorem dX7_load_0 : decode cX7_load 0 = .ok (.aload_n 0, 1) := by decide +kernel
theorem dX7_load_1 : decode cX7_load 1 = .ok (.iload_n 1, 1) := by decide +kernel
theorem dX7_load_2 : decode cX7_load 2 = .ok (.iload_n 2, 1) := by decide +kernel
theorem dX7_load_3 : decode cX7_load 3 = .ok (.invokevirtual 107, 3) := by decide +kernel
theorem dX7_load_6 : decode cX7_load 6 = .ok (.istore_n 3, 1) := by decide +kernel
theorem dX7_load_7 : decode cX7_load 7 = .ok (.iload_n 3, 1) := by decide +kernel
theorem dX7_load_8 : decode cX7_load 8 = .ok (.ifCond .ge 5, 3) := by decide +kernel
theorem dX7_load_11 : decode cX7_load 11 = .ok (.iload_n 3, 1) := by decide +kernel
theorem dX7_load_12 : decode cX7_load 12 = .ok (.ireturn, 1) := by decide +kernel
theorem dX7_load_13 : decode cX7_load 13 = .ok (.aload_n 0, 1) := by decide +kernel
theorem dX7_load_14 : decode cX7_load 14 = .ok (.invokevirtual 92, 3) := by decide +kernel
theorem dX7_load_17 : decode cX7_load 17 = .ok (.aload_n 0, 1) := by decide +kernel
theorem dX7_load_18 : decode cX7_load 18 = .ok (.iload_n 1, 1) := by decide +kernel
theorem dX7_load_19 : decode cX7_load 19 = .ok (.iload_n 2, 1) := by decide +kernel
theorem dX7_load_20 : decode cX7_load 20 = .ok (.invokevirtual 110, 3) := by decide +kernel
theorem dX7_load_23 : decode cX7_load 23 = .ok (.ireturn, 1) := by decide +kernel
set_option maxRecDepth 20000 in
theorem ggX7_isLoad_X7_num : GoodIn wsX7_isLoad wsX7_num := goodIn_r _ [5, 6, 10, 11, 12, 13, 14, 15, 16] (by decide +kernel) (by decide +kernel)
set_option maxRecDepth 20000 in
theorem gX7_isLoad_X7_num : GoodIn wsX7_isLoad (wsV RX7 37 RX7 yX7_num wsX7_num) := goodIn_app (goodIn_of _ (by decide +kernel)) ggX7_isLoad_X7_num
set_option maxRecDepth 20000 in
theorem ggX7_isLoad_X7_in : GoodIn wsX7_isLoad wsX7_in := goodIn_r _ [9] (by decide +kernel) (by decide +kernel)
set_option maxRecDepth 20000 in
theorem gX7_isLoad_X7_in : GoodIn wsX7_isLoad (va_wsS RX7 41 yX7_in wsX7_in) := goodIn_app (goodIn_of _ (by decide +kernel)) ggX7_isLoad_X7_in
theorem dX7_isLoad_0 : decode cX7_isLoad 0 = .ok (.iload_n 1, 1) := by decide +kernel
theorem dX7_isLoad_1 : decode cX7_isLoad 1 = .ok (.iconst 0, 1) := by decide +kernel
theorem dX7_isLoad_2 : decode cX7_isLoad 2 = .ok (.aload_n 0, 1) := by decide +kernel
theorem dX7_isLoad_3 : decode cX7_isLoad 3 = .ok (.bipush 8, 2) := by decide +kernel
theorem dX7_isLoad_5 : decode cX7_isLoad 5 = .ok (.invokevirtual 37, 3) := by decide +kernel
theorem dX7_isLoad_8 : decode cX7_isLoad 8 = .ok (.iconst 1, 1) := by decide +kernel
theorem dX7_isLoad_9 : decode cX7_isLoad 9 = .ok (.isub, 1) := by decide +kernel
theorem dX7_isLoad_10 : decode cX7_isLoad 10 = .ok (.invokestatic 41, 3) := by decide +kernel
theorem dX7_isLoad_13 : decode cX7_isLoad 13 = .ok (.ireturn, 1) := by decide +kernel
set_option maxRecDepth 20000 in
theorem ggX7_turns_X7_num : GoodIn wsX7_turns wsX7_num := goodIn_r _ [6, 1, 7, 8, 9, 10, 11, 12, 13] (by decide +kernel) (by decide +kernel)
set_option maxRecDepth 20000 in
theorem gX7_turns_X7_num : GoodIn wsX7_turns (wsV RX7 37 RX7 yX7_num wsX7_num) := goodIn_app (goodIn_of _ (by decide +kernel)) ggX7_turns_X7_num
theorem dX7_turns_0 : decode cX7_turns 0 = .ok (.bipush 102, 2) := by decide +kernel
theorem dX7_turns_2 : decode cX7_turns 2 = .ok (.iconst 3, 1) := by decide +kernel
theorem dX7_turns_3 : decode cX7_turns 3 = .ok (.iload_n 1, 1) := by decide +kernel
theorem dX7_turns_4 : decode cX7_turns 4 = .ok (.imul, 1) := by decide +kernel
theorem dX7_turns_5 : decode cX7_turns 5 = .ok (.iadd, 1) := by decide +kernel
theorem dX7_turns_6 : decode cX7_turns 6 = .ok (.iconst 2, 1) := by decide +kernel
theorem dX7_turns_7 : decode cX7_turns 7 = .ok (.iadd, 1) := by decide +kernel
theorem dX7_turns_8 : decode cX7_turns 8 = .ok (.istore_n 2, 1) := by decide +kernel
theorem dX7_turns_9 : decode cX7_turns 9 = .ok (.aload_n 0, 1) := by decide +kernel
theorem dX7_turns_10 : decode cX7_turns 10 = .ok (.getfield 7, 3) := by decide +kernel
theorem dX7_turns_13 : decode cX7_turns 13 = .ok (.iload_n 2, 1) := by decide +kernel
theorem dX7_turns_14 : decode cX7_turns 14 = .ok (.lconst 1, 1) := by decide +kernel
theorem dX7_turns_15 : decode cX7_turns 15 = .ok (.aload_n 0, 1) := by decide +kernel
theorem dX7_turns_16 : decode cX7_turns 16 = .ok (.getfield 7, 3) := by decide +kernel
theorem dX7_turns_19 : decode cX7_turns 19 = .ok (.iload_n 2, 1) := by decide +kernel
theorem dX7_turns_20 : decode cX7_turns 20 = .ok (.laload, 1) := by decide +kernel
theorem dX7_turns_21 : decode cX7_turns 21 = .ok (.lsub, 1) := by decide +kernel
theorem dX7_turns_22 : decode cX7_turns 22 = .ok (.lastore, 1) := by decide +kernel
theorem dX7_turns_23 : decode cX7_turns 23 = .ok (.aload_n 0, 1) := by decide +kernel
theorem dX7_turns_24 : decode cX7_turns 24 = .ok (.iload_n 2, 1) := by decide +kernel
theorem dX7_turns_25 : decode cX7_turns 25 = .ok (.invokevirtual 37, 3) := by decide +kernel
theorem dX7_turns_28 : decode cX7_turns 28 = .ok (.ireturn, 1) := by decide +kernel
set_option maxRecDepth 20000 in
theorem ggX7_turn_X7_isLoad : GoodIn wsX7_turn wsX7_isLoad := goodIn_r _ [5, 6, 7, 8, 4, 9, 10, 11, 12, 13, 24, 25, 26, 27, 28, 29, 30] (by decide +kernel) (by decide +kernel)
set_option maxRecDepth 20000 in
theorem gX7_turn_X7_isLoad : GoodIn wsX7_turn (wsV RX7 113 RX7 yX7_isLoad wsX7_isLoad) := goodIn_app (goodIn_of _ (by decide +kernel)) ggX7_turn_X7_isLoad
set_option maxRecDepth 20000 in
theorem ggX7_turn_X7_remembers : GoodIn wsX7_turn wsX7_remembers := goodIn_r _ [17, 18, 19, 10, 24, 25, 26, 27, 28, 29, 30] (by decide +kernel) (by decide +kernel)
set_option maxRecDepth 20000 in
theorem gX7_turn_X7_remembers : GoodIn wsX7_turn (wsV RX7 92 RX7 yX7_remembers wsX7_remembers) := goodIn_app (goodIn_of _ (by decide +kernel)) ggX7_turn_X7_remembers
set_option maxRecDepth 20000 in
theorem ggX7_turn_X7_turns : GoodIn wsX7_turn wsX7_turns := goodIn_r _ [23, 10, 6, 7, 8, 4, 9, 24, 25, 26, 27, 28, 29, 30] (by decide +kernel) (by decide +kernel)
set_option maxRecDepth 20000 in
theorem gX7_turn_X7_turns : GoodIn wsX7_turn (wsV RX7 116 RX7 yX7_turns wsX7_turns) := goodIn_app (goodIn_of _ (by decide +kernel)) ggX7_turn_X7_turns
theorem dX7_turn_0 : decode cX7_turn 0 = .ok (.aload_n 0, 1) := by decide +kernel
theorem dX7_turn_1 : decode cX7_turn 1 = .ok (.iload_n 1, 1) := by decide +kernel
theorem dX7_turn_2 : decode cX7_turn 2 = .ok (.invokevirtual 113, 3) := by decide +kernel
theorem dX7_turn_5 : decode cX7_turn 5 = .ok (.ifCond .ne 5, 3) := by decide +kernel
theorem dX7_turn_8 : decode cX7_turn 8 = .ok (.iconst (-1), 1) := by decide +kernel
theorem dX7_turn_9 : decode cX7_turn 9 = .ok (.ireturn, 1) := by decide +kernel
theorem dX7_turn_10 : decode cX7_turn 10 = .ok (.aload_n 0, 1) := by decide +kernel
theorem dX7_turn_11 : decode cX7_turn 11 = .ok (.invokevirtual 92, 3) := by decide +kernel
theorem dX7_turn_14 : decode cX7_turn 14 = .ok (.aload_n 0, 1) := by decide +kernel
theorem dX7_turn_15 : decode cX7_turn 15 = .ok (.iload_n 1, 1) := by decide +kernel
theorem dX7_turn_16 : decode cX7_turn 16 = .ok (.invokevirtual 116, 3) := by decide +kernel
theorem dX7_turn_19 : decode cX7_turn 19 = .ok (.ireturn, 1) := by decide +kernel
set_option maxRecDepth 20000 in
theorem ggX7_whyNotTamper_X7_isMeter : GoodIn wsX7_whyNotTamper wsX7_isMeter := goodIn_r _ [5, 6, 7, 8, 4, 9, 10, 11, 12, 13, 21, 22, 23, 24, 25, 26, 27] (by decide +kernel) (by decide +kernel)
set_option maxRecDepth 20000 in
theorem gX7_whyNotTamper_X7_isMeter : GoodIn wsX7_whyNotTamper (wsV RX7 95 RX7 yX7_isMeter wsX7_isMeter) := goodIn_app (goodIn_of _ (by decide +kernel)) ggX7_whyNotTamper_X7_isMeter
set_option maxRecDepth 20000 in
theorem ggX7_whyNotTamper_X7_its : GoodIn wsX7_whyNotTamper wsX7_its := goodIn_r _ [17, 10, 18, 19, 4, 20, 21, 22, 23, 24, 25, 26, 27] (by decide +kernel) (by decide +kernel)
set_option maxRecDepth 20000 in
theorem gX7_whyNotTamper_X7_its : GoodIn wsX7_whyNotTamper (wsV RX7 53 RX7 yX7_its wsX7_its) := goodIn_app (goodIn_of _ (by decide +kernel)) ggX7_whyNotTamper_X7_its
theorem dX7_whyNotTamper_0 : decode cX7_whyNotTamper 0 = .ok (.aload_n 0, 1) := by decide +kernel
theorem dX7_whyNotTamper_1 : decode cX7_whyNotTamper 1 = .ok (.iload_n 1, 1) := by decide +kernel
theorem dX7_whyNotTamper_2 : decode cX7_whyNotTamper 2 = .ok (.invokevirtual 95, 3) := by decide +kernel
theorem dX7_whyNotTamper_5 : decode cX7_whyNotTamper 5 = .ok (.ifCond .ne 7, 3) := by decide +kernel
theorem dX7_whyNotTamper_8 : decode cX7_whyNotTamper 8 = .ok (.iconst (-1), 1) := by decide +kernel
theorem dX7_whyNotTamper_9 : decode cX7_whyNotTamper 9 = .ok (.goto 20, 3) := by decide +kernel
theorem dX7_whyNotTamper_12 : decode cX7_whyNotTamper 12 = .ok (.aload_n 0, 1) := by decide +kernel
theorem dX7_whyNotTamper_13 : decode cX7_whyNotTamper 13 = .ok (.iload_n 1, 1) := by decide +kernel
theorem dX7_whyNotTamper_14 : decode cX7_whyNotTamper 14 = .ok (.bipush 7, 2) := by decide +kernel
theorem dX7_whyNotTamper_16 : decode cX7_whyNotTamper 16 = .ok (.invokevirtual 53, 3) := by decide +kernel
theorem dX7_whyNotTamper_19 : decode cX7_whyNotTamper 19 = .ok (.iconst 1, 1) := by decide +kernel
theorem dX7_whyNotTamper_20 : decode cX7_whyNotTamper 20 = .ok (.if_icmp .ne 8, 3) := by decide +kernel
theorem dX7_whyNotTamper_23 : decode cX7_whyNotTamper 23 = .ok (.bipush (-5), 2) := by decide +kernel
theorem dX7_whyNotTamper_25 : decode cX7_whyNotTamper 25 = .ok (.goto 4, 3) := by decide +kernel
theorem dX7_whyNotTamper_28 : decode cX7_whyNotTamper 28 = .ok (.iconst 0, 1) := by decide +kernel
theorem dX7_whyNotTamper_29 : decode cX7_whyNotTamper 29 = .ok (.ireturn, 1) := by decide +kernel
set_option maxRecDepth 20000 in
theorem ggX7_tamper_X7_whyNotTamper : GoodIn wsX7_tamper wsX7_whyNotTamper := goodIn_r _ [6, 7, 8, 9, 5, 10, 11, 12, 13, 14, 1, 15, 16, 17, 18, 19, 20, 21, 22, 23, 24, 31, 32, 33, 34, 35, 36, 37] (by decide +kernel) (by decide +kernel)
set_option maxRecDepth 20000 in
theorem gX7_tamper_X7_whyNotTamper : GoodIn wsX7_tamper (wsV RX7 119 RX7 yX7_whyNotTamper wsX7_whyNotTamper) := goodIn_app (goodIn_of _ (by decide +kernel)) ggX7_tamper_X7_whyNotTamper
set_option maxRecDepth 20000 in
theorem ggX7_tamper_X7_remembers : GoodIn wsX7_tamper wsX7_remembers := goodIn_r _ [28, 29, 30, 1, 31, 32, 33, 34, 35, 36, 37] (by decide +kernel) (by decide +kernel)
set_option maxRecDepth 20000 in
theorem gX7_tamper_X7_remembers : GoodIn wsX7_tamper (wsV RX7 92 RX7 yX7_remembers wsX7_remembers) := goodIn_app (goodIn_of _ (by decide +kernel)) ggX7_tamper_X7_remembers
set_option maxRecDepth 20000 in
theorem ggX7_tamper_X7_at : GoodIn wsX7_tamper wsX7_at := goodIn_r _ [24] (by decide +kernel) (by decide +kernel)
set_option maxRecDepth 20000 in
theorem gX7_tamper_X7_at : GoodIn wsX7_tamper (va_wsS RX7 45 yX7_at wsX7_at) := goodIn_app (goodIn_of _ (by decide +kernel)) ggX7_tamper_X7_at
set_option maxRecDepth 20000 in
theorem ggX7_tamper_X7_its : GoodIn wsX7_tamper wsX7_its := goodIn_r _ [21, 1, 22, 23, 5, 24, 31, 32, 33, 34, 35, 36, 37] (by decide +kernel) (by decide +kernel)
set_option maxRecDepth 20000 in
theorem gX7_tamper_X7_its : GoodIn wsX7_tamper (wsV RX7 53 RX7 yX7_its wsX7_its) := goodIn_app (goodIn_of _ (by decide +kernel)) ggX7_tamper_X7_its
theorem dX7_tamper_0 : decode cX7_tamper 0 = .ok (.aload_n 0, 1) := by decide +kernel
theorem dX7_tamper_1 : decode cX7_tamper 1 = .ok (.iload_n 1, 1) := by decide +kernel
theorem dX7_tamper_2 : decode cX7_tamper 2 = .ok (.invokevirtual 119, 3) := by decide +kernel
theorem dX7_tamper_5 : decode cX7_tamper 5 = .ok (.istore_n 2, 1) := by decide +kernel
theorem dX7_tamper_6 : decode cX7_tamper 6 = .ok (.iload_n 2, 1) := by decide +kernel
theorem dX7_tamper_7 : decode cX7_tamper 7 = .ok (.ifCond .ge 5, 3) := by decide +kernel
theorem dX7_tamper_10 : decode cX7_tamper 10 = .ok (.iload_n 2, 1) := by decide +kernel
theorem dX7_tamper_11 : decode cX7_tamper 11 = .ok (.ireturn, 1) := by decide +kernel
theorem dX7_tamper_12 : decode cX7_tamper 12 = .ok (.aload_n 0, 1) := by decide +kernel
theorem dX7_tamper_13 : decode cX7_tamper 13 = .ok (.invokevirtual 92, 3) := by decide +kernel
theorem dX7_tamper_16 : decode cX7_tamper 16 = .ok (.aload_n 0, 1) := by decide +kernel
theorem dX7_tamper_17 : decode cX7_tamper 17 = .ok (.getfield 7, 3) := by decide +kernel
theorem dX7_tamper_20 : decode cX7_tamper 20 = .ok (.iconst 0, 1) := by decide +kernel
theorem dX7_tamper_21 : decode cX7_tamper 21 = .ok (.iload_n 1, 1) := by decide +kernel
theorem dX7_tamper_22 : decode cX7_tamper 22 = .ok (.invokestatic 45, 3) := by decide +kernel
theorem dX7_tamper_25 : decode cX7_tamper 25 = .ok (.bipush 7, 2) := by decide +kernel
theorem dX7_tamper_27 : decode cX7_tamper 27 = .ok (.iadd, 1) := by decide +kernel
theorem dX7_tamper_28 : decode cX7_tamper 28 = .ok (.lconst 1, 1) := by decide +kernel
theorem dX7_tamper_29 : decode cX7_tamper 29 = .ok (.lastore, 1) := by decide +kernel
theorem dX7_tamper_30 : decode cX7_tamper 30 = .ok (.aload_n 0, 1) := by decide +kernel
theorem dX7_tamper_31 : decode cX7_tamper 31 = .ok (.iload_n 1, 1) := by decide +kernel
theorem dX7_tamper_32 : decode cX7_tamper 32 = .ok (.bipush 6, 2) := by decide +kernel
theorem dX7_tamper_34 : decode cX7_tamper 34 = .ok (.invokevirtual 53, 3) := by decide +kernel
theorem dX7_tamper_37 : decode cX7_tamper 37 = .ok (.ireturn, 1) := by decide +kernel
set_option maxRecDepth 20000 in
theorem ggX7_billOf_X7_at : GoodIn wsX7_billOf wsX7_at := goodIn_r _ [5] (by decide +kernel) (by decide +kernel)
set_option maxRecDepth 20000 in
theorem gX7_billOf_X7_at : GoodIn wsX7_billOf (va_wsS RX7 45 yX7_at wsX7_at) := goodIn_app (goodIn_of _ (by decide +kernel)) ggX7_billOf_X7_at
theorem dX7_billOf_0 : decode cX7_billOf 0 = .ok (.iconst 0, 1) := by decide +kernel
theorem dX7_billOf_1 : decode cX7_billOf 1 = .ok (.iload_n 1, 1) := by decide +kernel
theorem dX7_billOf_2 : decode cX7_billOf 2 = .ok (.invokestatic 45, 3) := by decide +kernel
theorem dX7_billOf_5 : decode cX7_billOf 5 = .ok (.istore_n 2, 1) := by decide +kernel
theorem dX7_billOf_6 : decode cX7_billOf 6 = .ok (.aload_n 0, 1) := by decide +kernel
theorem dX7_billOf_7 : decode cX7_billOf 7 = .ok (.getfield 7, 3) := by decide +kernel
theorem dX7_billOf_10 : decode cX7_billOf 10 = .ok (.iconst 4, 1) := by decide +kernel
theorem dX7_billOf_11 : decode cX7_billOf 11 = .ok (.laload, 1) := by decide +kernel
theorem dX7_billOf_12 : decode cX7_billOf 12 = .ok (.aload_n 0, 1) := by decide +kernel
theorem dX7_billOf_13 : decode cX7_billOf 13 = .ok (.getfield 7, 3) := by decide +kernel
theorem dX7_billOf_16 : decode cX7_billOf 16 = .ok (.iload_n 2, 1) := by decide +kernel
theorem dX7_billOf_17 : decode cX7_billOf 17 = .ok (.iconst 3, 1) := by decide +kernel
theorem dX7_billOf_18 : decode cX7_billOf 18 = .ok (.iadd, 1) := by decide +kernel
theorem dX7_billOf_19 : decode cX7_billOf 19 = .ok (.laload, 1) := by decide +kernel
theorem dX7_billOf_20 : decode cX7_billOf 20 = .ok (.aload_n 0, 1) := by decide +kernel
theorem dX7_billOf_21 : decode cX7_billOf 21 = .ok (.getfield 7, 3) := by decide +kernel
theorem dX7_billOf_24 : decode cX7_billOf 24 = .ok (.iload_n 2, 1) := by decide +kernel
theorem dX7_billOf_25 : decode cX7_billOf 25 = .ok (.bipush 11, 2) := by decide +kernel
theorem dX7_billOf_27 : decode cX7_billOf 27 = .ok (.iadd, 1) := by decide +kernel
theorem dX7_billOf_28 : decode cX7_billOf 28 = .ok (.laload, 1) := by decide +kernel
theorem dX7_billOf_29 : decode cX7_billOf 29 = .ok (.lsub, 1) := by decide +kernel
theorem dX7_billOf_30 : decode cX7_billOf 30 = .ok (.lmul, 1) := by decide +kernel
theorem dX7_billOf_31 : decode cX7_billOf 31 = .ok (.aload_n 0, 1) := by decide +kernel
theorem dX7_billOf_32 : decode cX7_billOf 32 = .ok (.getfield 7, 3) := by decide +kernel
theorem dX7_billOf_35 : decode cX7_billOf 35 = .ok (.iconst 5, 1) := by decide +kernel
theorem dX7_billOf_36 : decode cX7_billOf 36 = .ok (.laload, 1) := by decide +kernel
theorem dX7_billOf_37 : decode cX7_billOf 37 = .ok (.aload_n 0, 1) := by decide +kernel
theorem dX7_billOf_38 : decode cX7_billOf 38 = .ok (.getfield 7, 3) := by decide +kernel
theorem dX7_billOf_41 : decode cX7_billOf 41 = .ok (.iload_n 2, 1) := by decide +kernel
theorem dX7_billOf_42 : decode cX7_billOf 42 = .ok (.iconst 4, 1) := by decide +kernel
theorem dX7_billOf_43 : decode cX7_billOf 43 = .ok (.iadd, 1) := by decide +kernel
theorem dX7_billOf_44 : decode cX7_billOf 44 = .ok (.laload, 1) := by decide +kernel
theorem dX7_billOf_45 : decode cX7_billOf 45 = .ok (.aload_n 0, 1) := by decide +kernel
theorem dX7_billOf_46 : decode cX7_billOf 46 = .ok (.getfield 7, 3) := by decide +kernel
theorem dX7_billOf_49 : decode cX7_billOf 49 = .ok (.iload_n 2, 1) := by decide +kernel
theorem dX7_billOf_50 : decode cX7_billOf 50 = .ok (.bipush 12, 2) := by decide +kernel
theorem dX7_billOf_52 : decode cX7_billOf 52 = .ok (.iadd, 1) := by decide +kernel
theorem dX7_billOf_53 : decode cX7_billOf 53 = .ok (.laload, 1) := by decide +kernel
theorem dX7_billOf_54 : decode cX7_billOf 54 = .ok (.lsub, 1) := by decide +kernel
theorem dX7_billOf_55 : decode cX7_billOf 55 = .ok (.lmul, 1) := by decide +kernel
theorem dX7_billOf_56 : decode cX7_billOf 56 = .ok (.ladd, 1) := by decide +kernel
theorem dX7_billOf_57 : decode cX7_billOf 57 = .ok (.l2i, 1) := by decide +kernel
theorem dX7_billOf_58 : decode cX7_billOf 58 = .ok (.ireturn, 1) := by decide +kernel
set_option maxRecDepth 20000 in
theorem ggX7_visits_X7_at : GoodIn wsX7_visits wsX7_at := goodIn_r _ [6] (by decide +kernel) (by decide +kernel)
set_option maxRecDepth 20000 in
theorem gX7_visits_X7_at : GoodIn wsX7_visits (va_wsS RX7 45 yX7_at wsX7_at) := goodIn_app (goodIn_of _ (by decide +kernel)) ggX7_visits_X7_at
set_option maxRecDepth 20000 in
theorem ggX7_visits_X7_billOf : GoodIn wsX7_visits wsX7_billOf := goodIn_r _ [10, 1, 3, 4, 5, 6, 11, 12, 13, 14, 15, 16, 17] (by decide +kernel) (by decide +kernel)
set_option maxRecDepth 20000 in
theorem gX7_visits_X7_billOf : GoodIn wsX7_visits (wsV RX7 122 RX7 yX7_billOf wsX7_billOf) := goodIn_app (goodIn_of _ (by decide +kernel)) ggX7_visits_X7_billOf
theorem dX7_visits_0 : decode cX7_visits 0 = .ok (.iconst 0, 1) := by decide +kernel
theorem dX7_visits_1 : decode cX7_visits 1 = .ok (.iload_n 1, 1) := by decide +kernel
theorem dX7_visits_2 : decode cX7_visits 2 = .ok (.invokestatic 45, 3) := by decide +kernel
theorem dX7_visits_5 : decode cX7_visits 5 = .ok (.istore_n 2, 1) := by decide +kernel
theorem dX7_visits_6 : decode cX7_visits 6 = .ok (.aload_n 0, 1) := by decide +kernel
theorem dX7_visits_7 : decode cX7_visits 7 = .ok (.iload_n 1, 1) := by decide +kernel
theorem dX7_visits_8 : decode cX7_visits 8 = .ok (.invokevirtual 122, 3) := by decide +kernel
theorem dX7_visits_11 : decode cX7_visits 11 = .ok (.istore_n 3, 1) := by decide +kernel
theorem dX7_visits_12 : decode cX7_visits 12 = .ok (.aload_n 0, 1) := by decide +kernel
theorem dX7_visits_13 : decode cX7_visits 13 = .ok (.getfield 7, 3) := by decide +kernel
theorem dX7_visits_16 : decode cX7_visits 16 = .ok (.iload_n 2, 1) := by decide +kernel
theorem dX7_visits_17 : decode cX7_visits 17 = .ok (.bipush 11, 2) := by decide +kernel
theorem dX7_visits_19 : decode cX7_visits 19 = .ok (.iadd, 1) := by decide +kernel
theorem dX7_visits_20 : decode cX7_visits 20 = .ok (.aload_n 0, 1) := by decide +kernel
theorem dX7_visits_21 : decode cX7_visits 21 = .ok (.getfield 7, 3) := by decide +kernel
theorem dX7_visits_24 : decode cX7_visits 24 = .ok (.iload_n 2, 1) := by decide +kernel
theorem dX7_visits_25 : decode cX7_visits 25 = .ok (.iconst 3, 1) := by decide +kernel
theorem dX7_visits_26 : decode cX7_visits 26 = .ok (.iadd, 1) := by decide +kernel
theorem dX7_visits_27 : decode cX7_visits 27 = .ok (.laload, 1) := by decide +kernel
theorem dX7_visits_28 : decode cX7_visits 28 = .ok (.lastore, 1) := by decide +kernel
theorem dX7_visits_29 : decode cX7_visits 29 = .ok (.aload_n 0, 1) := by decide +kernel
theorem dX7_visits_30 : decode cX7_visits 30 = .ok (.getfield 7, 3) := by decide +kernel
theorem dX7_visits_33 : decode cX7_visits 33 = .ok (.iload_n 2, 1) := by decide +kernel
theorem dX7_visits_34 : decode cX7_visits 34 = .ok (.bipush 12, 2) := by decide +kernel
theorem dX7_visits_36 : decode cX7_visits 36 = .ok (.iadd, 1) := by decide +kernel
theorem dX7_visits_37 : decode cX7_visits 37 = .ok (.aload_n 0, 1) := by decide +kernel
theorem dX7_visits_38 : decode cX7_visits 38 = .ok (.getfield 7, 3) := by decide +kernel
theorem dX7_visits_41 : decode cX7_visits 41 = .ok (.iload_n 2, 1) := by decide +kernel
theorem dX7_visits_42 : decode cX7_visits 42 = .ok (.iconst 4, 1) := by decide +kernel
theorem dX7_visits_43 : decode cX7_visits 43 = .ok (.iadd, 1) := by decide +kernel
theorem dX7_visits_44 : decode cX7_visits 44 = .ok (.laload, 1) := by decide +kernel
theorem dX7_visits_45 : decode cX7_visits 45 = .ok (.lastore, 1) := by decide +kernel
theorem dX7_visits_46 : decode cX7_visits 46 = .ok (.aload_n 0, 1) := by decide +kernel
theorem dX7_visits_47 : decode cX7_visits 47 = .ok (.getfield 7, 3) := by decide +kernel
theorem dX7_visits_50 : decode cX7_visits 50 = .ok (.iload_n 2, 1) := by decide +kernel
theorem dX7_visits_51 : decode cX7_visits 51 = .ok (.bipush 8, 2) := by decide +kernel
theorem dX7_visits_53 : decode cX7_visits 53 = .ok (.iadd, 1) := by decide +kernel
theorem dX7_visits_54 : decode cX7_visits 54 = .ok (.dup2, 1) := by decide +kernel
theorem dX7_visits_55 : decode cX7_visits 55 = .ok (.laload, 1) := by decide +kernel
theorem dX7_visits_56 : decode cX7_visits 56 = .ok (.iload_n 3, 1) := by decide +kernel
theorem dX7_visits_57 : decode cX7_visits 57 = .ok (.i2l, 1) := by decide +kernel
theorem dX7_visits_58 : decode cX7_visits 58 = .ok (.ladd, 1) := by decide +kernel
theorem dX7_visits_59 : decode cX7_visits 59 = .ok (.lastore, 1) := by decide +kernel
theorem dX7_visits_60 : decode cX7_visits 60 = .ok (.aload_n 0, 1) := by decide +kernel
theorem dX7_visits_61 : decode cX7_visits 61 = .ok (.getfield 7, 3) := by decide +kernel
theorem dX7_visits_64 : decode cX7_visits 64 = .ok (.bipush 9, 2) := by decide +kernel
theorem dX7_visits_66 : decode cX7_visits 66 = .ok (.dup2, 1) := by decide +kernel
theorem dX7_visits_67 : decode cX7_visits 67 = .ok (.laload, 1) := by decide +kernel
theorem dX7_visits_68 : decode cX7_visits 68 = .ok (.iload_n 3, 1) := by decide +kernel
theorem dX7_visits_69 : decode cX7_visits 69 = .ok (.i2l, 1) := by decide +kernel
theorem dX7_visits_70 : decode cX7_visits 70 = .ok (.ladd, 1) := by decide +kernel
theorem dX7_visits_71 : decode cX7_visits 71 = .ok (.lastore, 1) := by decide +kernel
theorem dX7_visits_72 : decode cX7_visits 72 = .ok (.aload_n 0, 1) := by decide +kernel
theorem dX7_visits_73 : decode cX7_visits 73 = .ok (.getfield 7, 3) := by decide +kernel
theorem dX7_visits_76 : decode cX7_visits 76 = .ok (.iload_n 2, 1) := by decide +kernel
theorem dX7_visits_77 : decode cX7_visits 77 = .ok (.iconst 2, 1) := by decide +kernel
theorem dX7_visits_78 : decode cX7_visits 78 = .ok (.iadd, 1) := by decide +kernel
theorem dX7_visits_79 : decode cX7_visits 79 = .ok (.ldc2_w 66, 3) := by decide +kernel
theorem dX7_visits_82 : decode cX7_visits 82 = .ok (.lastore, 1) := by decide +kernel
theorem dX7_visits_83 : decode cX7_visits 83 = .ok (.aload_n 0, 1) := by decide +kernel
theorem dX7_visits_84 : decode cX7_visits 84 = .ok (.getfield 7, 3) := by decide +kernel
theorem dX7_visits_87 : decode cX7_visits 87 = .ok (.iload_n 2, 1) := by decide +kernel
theorem dX7_visits_88 : decode cX7_visits 88 = .ok (.bipush 9, 2) := by decide +kernel
theorem dX7_visits_90 : decode cX7_visits 90 = .ok (.iadd, 1) := by decide +kernel
theorem dX7_visits_91 : decode cX7_visits 91 = .ok (.lconst 0, 1) := by decide +kernel
theorem dX7_visits_92 : decode cX7_visits 92 = .ok (.lastore, 1) := by decide +kernel
theorem dX7_visits_93 : decode cX7_visits 93 = .ok (.aload_n 0, 1) := by decide +kernel
theorem dX7_visits_94 : decode cX7_visits 94 = .ok (.getfield 7, 3) := by decide +kernel
theorem dX7_visits_97 : decode cX7_visits 97 = .ok (.iload_n 2, 1) := by decide +kernel
theorem dX7_visits_98 : decode cX7_visits 98 = .ok (.bipush 10, 2) := by decide +kernel
theorem dX7_visits_100 : decode cX7_visits 100 = .ok (.iadd, 1) := by decide +kernel
theorem dX7_visits_101 : decode cX7_visits 101 = .ok (.dup2, 1) := by decide +kernel
theorem dX7_visits_102 : decode cX7_visits 102 = .ok (.laload, 1) := by decide +kernel
theorem dX7_visits_103 : decode cX7_visits 103 = .ok (.lconst 1, 1) := by decide +kernel
theorem dX7_visits_104 : decode cX7_visits 104 = .ok (.ladd, 1) := by decide +kernel
theorem dX7_visits_105 : decode cX7_visits 105 = .ok (.lastore, 1) := by decide +kernel
theorem dX7_visits_106 : decode cX7_visits 106 = .ok (.aload_n 0, 1) := by decide +kernel
theorem dX7_visits_107 : decode cX7_visits 107 = .ok (.getfield 7, 3) := by decide +kernel
theorem dX7_visits_110 : decode cX7_visits 110 = .ok (.iload_n 2, 1) := by decide +kernel
theorem dX7_visits_111 : decode cX7_visits 111 = .ok (.bipush 7, 2) := by decide +kernel
theorem dX7_visits_113 : decode cX7_visits 113 = .ok (.iadd, 1) := by decide +kernel
theorem dX7_visits_114 : decode cX7_visits 114 = .ok (.laload, 1) := by decide +kernel
theorem dX7_visits_115 : decode cX7_visits 115 = .ok (.lconst 1, 1) := by decide +kernel
theorem dX7_visits_116 : decode cX7_visits 116 = .ok (.lcmp, 1) := by decide +kernel
theorem dX7_visits_117 : decode cX7_visits 117 = .ok (.ifCond .ne 40, 3) := by decide +kernel
theorem dX7_visits_120 : decode cX7_visits 120 = .ok (.aload_n 0, 1) := by decide +kernel
theorem dX7_visits_121 : decode cX7_visits 121 = .ok (.getfield 7, 3) := by decide +kernel
theorem dX7_visits_124 : decode cX7_visits 124 = .ok (.bipush 10, 2) := by decide +kernel
theorem dX7_visits_126 : decode cX7_visits 126 = .ok (.dup2, 1) := by decide +kernel
theorem dX7_visits_127 : decode cX7_visits 127 = .ok (.laload, 1) := by decide +kernel
theorem dX7_visits_128 : decode cX7_visits 128 = .ok (.lconst 1, 1) := by decide +kernel
theorem dX7_visits_129 : decode cX7_visits 129 = .ok (.ladd, 1) := by decide +kernel
theorem dX7_visits_130 : decode cX7_visits 130 = .ok (.lastore, 1) := by decide +kernel
theorem dX7_visits_131 : decode cX7_visits 131 = .ok (.aload_n 0, 1) := by decide +kernel
theorem dX7_visits_132 : decode cX7_visits 132 = .ok (.getfield 7, 3) := by decide +kernel
theorem dX7_visits_135 : decode cX7_visits 135 = .ok (.iload_n 2, 1) := by decide +kernel
theorem dX7_visits_136 : decode cX7_visits 136 = .ok (.bipush 6, 2) := by decide +kernel
theorem dX7_visits_138 : decode cX7_visits 138 = .ok (.iadd, 1) := by decide +kernel
theorem dX7_visits_139 : decode cX7_visits 139 = .ok (.aload_n 0, 1) := by decide +kernel
theorem dX7_visits_140 : decode cX7_visits 140 = .ok (.getfield 7, 3) := by decide +kernel
theorem dX7_visits_143 : decode cX7_visits 143 = .ok (.bipush 10, 2) := by decide +kernel
theorem dX7_visits_145 : decode cX7_visits 145 = .ok (.laload, 1) := by decide +kernel
theorem dX7_visits_146 : decode cX7_visits 146 = .ok (.lastore, 1) := by decide +kernel
theorem dX7_visits_147 : decode cX7_visits 147 = .ok (.aload_n 0, 1) := by decide +kernel
theorem dX7_visits_148 : decode cX7_visits 148 = .ok (.getfield 7, 3) := by decide +kernel
theorem dX7_visits_151 : decode cX7_visits 151 = .ok (.iload_n 2, 1) := by decide +kernel
theorem dX7_visits_152 : decode cX7_visits 152 = .ok (.bipush 7, 2) := by decide +kernel
theorem dX7_visits_154 : decode cX7_visits 154 = .ok (.iadd, 1) := by decide +kernel
theorem dX7_visits_155 : decode cX7_visits 155 = .ok (.lconst 0, 1) := by decide +kernel
theorem dX7_visits_156 : decode cX7_visits 156 = .ok (.lastore, 1) := by decide +kernel
theorem dX7_visits_157 : decode cX7_visits 157 = .ok (.iload_n 3, 1) := by decide +kernel
theorem dX7_visits_158 : decode cX7_visits 158 = .ok (.ireturn, 1) := by decide +kernel
set_option maxRecDepth 20000 in
theorem ggX7_visit_X7_isMeter : GoodIn wsX7_visit wsX7_isMeter := goodIn_r _ [5, 6, 7, 8, 4, 9, 10, 11, 12, 13, 32, 33, 34, 35, 36, 37, 38] (by decide +kernel) (by decide +kernel)
set_option maxRecDepth 20000 in
theorem gX7_visit_X7_isMeter : GoodIn wsX7_visit (wsV RX7 95 RX7 yX7_isMeter wsX7_isMeter) := goodIn_app (goodIn_of _ (by decide +kernel)) ggX7_visit_X7_isMeter
set_option maxRecDepth 20000 in
theorem ggX7_visit_X7_remembers : GoodIn wsX7_visit wsX7_remembers := goodIn_r _ [17, 18, 19, 10, 32, 33, 34, 35, 36, 37, 38] (by decide +kernel) (by decide +kernel)
set_option maxRecDepth 20000 in
theorem gX7_visit_X7_remembers : GoodIn wsX7_visit (wsV RX7 92 RX7 yX7_remembers wsX7_remembers) := goodIn_app (goodIn_of _ (by decide +kernel)) ggX7_visit_X7_remembers
set_option maxRecDepth 20000 in
theorem ggX7_visit_X7_visits : GoodIn wsX7_visit wsX7_visits := goodIn_r _ [23, 10, 24, 25, 26, 4, 27, 28, 29, 30, 31, 32, 33, 34, 35, 36, 37, 38] (by decide +kernel) (by decide +kernel)
set_option maxRecDepth 20000 in
theorem gX7_visit_X7_visits : GoodIn wsX7_visit (wsV RX7 125 RX7 yX7_visits wsX7_visits) := goodIn_app (goodIn_of _ (by decide +kernel)) ggX7_visit_X7_visits
theorem dX7_visit_0 : decode cX7_visit 0 = .ok (.aload_n 0, 1) := by decide +kernel
theorem dX7_visit_1 : decode cX7_visit 1 = .ok (.iload_n 1, 1) := by decide +kernel
theorem dX7_visit_2 : decode cX7_visit 2 = .ok (.invokevirtual 95, 3) := by decide +kernel
theorem dX7_visit_5 : decode cX7_visit 5 = .ok (.ifCond .ne 5, 3) := by decide +kernel
theorem dX7_visit_8 : decode cX7_visit 8 = .ok (.iconst (-1), 1) := by decide +kernel
theorem dX7_visit_9 : decode cX7_visit 9 = .ok (.ireturn, 1) := by decide +kernel
theorem dX7_visit_10 : decode cX7_visit 10 = .ok (.aload_n 0, 1) := by decide +kernel
theorem dX7_visit_11 : decode cX7_visit 11 = .ok (.invokevirtual 92, 3) := by decide +kernel
theorem dX7_visit_14 : decode cX7_visit 14 = .ok (.aload_n 0, 1) := by decide +kernel
theorem dX7_visit_15 : decode cX7_visit 15 = .ok (.iload_n 1, 1) := by decide +kernel
theorem dX7_visit_16 : decode cX7_visit 16 = .ok (.invokevirtual 125, 3) := by decide +kernel
theorem dX7_visit_19 : decode cX7_visit 19 = .ok (.ireturn, 1) := by decide +kernel
set_option maxRecDepth 20000 in
theorem ggX7_whyNotPass_X7_in : GoodIn wsX7_whyNotPass wsX7_in := goodIn_r _ [5] (by decide +kernel) (by decide +kernel)
set_option maxRecDepth 20000 in
theorem gX7_whyNotPass_X7_in : GoodIn wsX7_whyNotPass (va_wsS RX7 41 yX7_in wsX7_in) := goodIn_app (goodIn_of _ (by decide +kernel)) ggX7_whyNotPass_X7_in
set_option maxRecDepth 20000 in
theorem ggX7_whyNotPass_X7_num : GoodIn wsX7_whyNotPass wsX7_num := goodIn_r _ [9, 10, 11, 12, 13, 14, 15, 16, 17] (by decide +kernel) (by decide +kernel)
set_option maxRecDepth 20000 in
theorem gX7_whyNotPass_X7_num : GoodIn wsX7_whyNotPass (wsV RX7 37 RX7 yX7_num wsX7_num) := goodIn_app (goodIn_of _ (by decide +kernel)) ggX7_whyNotPass_X7_num
theorem dX7_whyNotPass_0 : decode cX7_whyNotPass 0 = .ok (.iload_n 1, 1) := by decide +kernel
theorem dX7_whyNotPass_1 : decode cX7_whyNotPass 1 = .ok (.iconst 1, 1) := by decide +kernel
theorem dX7_whyNotPass_2 : decode cX7_whyNotPass 2 = .ok (.sipush 1440, 3) := by decide +kernel
theorem dX7_whyNotPass_5 : decode cX7_whyNotPass 5 = .ok (.invokestatic 41, 3) := by decide +kernel
theorem dX7_whyNotPass_8 : decode cX7_whyNotPass 8 = .ok (.ifCond .ne 8, 3) := by decide +kernel
theorem dX7_whyNotPass_11 : decode cX7_whyNotPass 11 = .ok (.bipush (-2), 2) := by decide +kernel
theorem dX7_whyNotPass_13 : decode cX7_whyNotPass 13 = .ok (.goto 22, 3) := by decide +kernel
theorem dX7_whyNotPass_16 : decode cX7_whyNotPass 16 = .ok (.aload_n 0, 1) := by decide +kernel
theorem dX7_whyNotPass_17 : decode cX7_whyNotPass 17 = .ok (.bipush 6, 2) := by decide +kernel
theorem dX7_whyNotPass_19 : decode cX7_whyNotPass 19 = .ok (.invokevirtual 37, 3) := by decide +kernel
theorem dX7_whyNotPass_22 : decode cX7_whyNotPass 22 = .ok (.iload_n 1, 1) := by decide +kernel
theorem dX7_whyNotPass_23 : decode cX7_whyNotPass 23 = .ok (.iadd, 1) := by decide +kernel
theorem dX7_whyNotPass_24 : decode cX7_whyNotPass 24 = .ok (.ldc 128, 2) := by decide +kernel
theorem dX7_whyNotPass_26 : decode cX7_whyNotPass 26 = .ok (.if_icmp .le 8, 3) := by decide +kernel
theorem dX7_whyNotPass_29 : decode cX7_whyNotPass 29 = .ok (.bipush (-5), 2) := by decide +kernel
theorem dX7_whyNotPass_31 : decode cX7_whyNotPass 31 = .ok (.goto 4, 3) := by decide +kernel
theorem dX7_whyNotPass_34 : decode cX7_whyNotPass 34 = .ok (.iconst 0, 1) := by decide +kernel
theorem dX7_whyNotPass_35 : decode cX7_whyNotPass 35 = .ok (.ireturn, 1) := by decide +kernel
set_option maxRecDepth 20000 in
theorem ggX7_pass_X7_whyNotPass : GoodIn wsX7_pass wsX7_whyNotPass := goodIn_r _ [5, 6, 7, 8, 4, 9, 10, 11, 12, 13, 14, 58, 59, 60, 61, 62, 63, 64] (by decide +kernel) (by decide +kernel)
set_option maxRecDepth 20000 in
theorem gX7_pass_X7_whyNotPass : GoodIn wsX7_pass (wsV RX7 129 RX7 yX7_whyNotPass wsX7_whyNotPass) := goodIn_app (goodIn_of _ (by decide +kernel)) ggX7_pass_X7_whyNotPass
set_option maxRecDepth 20000 in
theorem ggX7_pass_X7_remembers : GoodIn wsX7_pass wsX7_remembers := goodIn_r _ [18, 19, 20, 14, 58, 59, 60, 61, 62, 63, 64] (by decide +kernel) (by decide +kernel)
set_option maxRecDepth 20000 in
theorem gX7_pass_X7_remembers : GoodIn wsX7_pass (wsV RX7 92 RX7 yX7_remembers wsX7_remembers) := goodIn_app (goodIn_of _ (by decide +kernel)) ggX7_pass_X7_remembers
set_option maxRecDepth 20000 in
theorem ggX7_pass_X7_passes : GoodIn wsX7_pass wsX7_passes := goodIn_r _ [24, 14, 10, 11, 12, 4, 13, 25, 26, 27, 28, 29, 30, 31, 32, 33, 34, 35, 36, 37, 38, 39, 40, 41, 42, 43, 44, 45, 46, 47, 48, 49, 50, 51, 52, 53, 54, 55, 56, 57, 58, 59, 60, 61, 62, 63, 64] (by decide +kernel) (by decide +kernel)
set_option maxRecDepth 20000 in
theorem gX7_pass_X7_passes : GoodIn wsX7_pass (wsV RX7 132 RX7 yX7_passes wsX7_passes) := goodIn_app (goodIn_of _ (by decide +kernel)) ggX7_pass_X7_passes
theorem dX7_pass_0 : decode cX7_pass 0 = .ok (.aload_n 0, 1) := by decide +kernel
theorem dX7_pass_1 : decode cX7_pass 1 = .ok (.iload_n 1, 1) := by decide +kernel
theorem dX7_pass_2 : decode cX7_pass 2 = .ok (.invokevirtual 129, 3) := by decide +kernel
theorem dX7_pass_5 : decode cX7_pass 5 = .ok (.istore_n 2, 1) := by decide +kernel
theorem dX7_pass_6 : decode cX7_pass 6 = .ok (.iload_n 2, 1) := by decide +kernel
theorem dX7_pass_7 : decode cX7_pass 7 = .ok (.ifCond .ge 5, 3) := by decide +kernel
theorem dX7_pass_10 : decode cX7_pass 10 = .ok (.iload_n 2, 1) := by decide +kernel
theorem dX7_pass_11 : decode cX7_pass 11 = .ok (.ireturn, 1) := by decide +kernel
theorem dX7_pass_12 : decode cX7_pass 12 = .ok (.aload_n 0, 1) := by decide +kernel
theorem dX7_pass_13 : decode cX7_pass 13 = .ok (.invokevirtual 92, 3) := by decide +kernel
theorem dX7_pass_16 : decode cX7_pass 16 = .ok (.aload_n 0, 1) := by decide +kernel
theorem dX7_pass_17 : decode cX7_pass 17 = .ok (.iconst 0, 1) := by decide +kernel
theorem dX7_pass_18 : decode cX7_pass 18 = .ok (.iload_n 1, 1) := by decide +kernel
theorem dX7_pass_19 : decode cX7_pass 19 = .ok (.invokevirtual 132, 3) := by decide +kernel
theorem dX7_pass_22 : decode cX7_pass 22 = .ok (.ireturn, 1) := by decide +kernel
theorem dX7_types_0 : decode cX7_types 0 = .ok (.aload_n 0, 1) := by decide +kernel
theorem dX7_types_1 : decode cX7_types 1 = .ok (.getfield 23, 3) := by decide +kernel
theorem dX7_types_4 : decode cX7_types 4 = .ok (.aload_n 0, 1) := by decide +kernel
theorem dX7_types_5 : decode cX7_types 5 = .ok (.getfield 135, 3) := by decide +kernel
theorem dX7_types_8 : decode cX7_types 8 = .ok (.iload_n 1, 1) := by decide +kernel
theorem dX7_types_9 : decode cX7_types 9 = .ok (.iastore, 1) := by decide +kernel
theorem dX7_types_10 : decode cX7_types 10 = .ok (.aload_n 0, 1) := by decide +kernel
theorem dX7_types_11 : decode cX7_types 11 = .ok (.dup, 1) := by decide +kernel
theorem dX7_types_12 : decode cX7_types 12 = .ok (.getfield 135, 3) := by decide +kernel
theorem dX7_types_15 : decode cX7_types 15 = .ok (.iconst 1, 1) := by decide +kernel
theorem dX7_types_16 : decode cX7_types 16 = .ok (.iadd, 1) := by decide +kernel
theorem dX7_types_17 : decode cX7_types 17 = .ok (.putfield 135, 3) := by decide +kernel
theorem dX7_types_20 : decode cX7_types 20 = .ok (.return_, 1) := by decide +kernel
set_option maxRecDepth 20000 in
theorem ggX7_typesNumber_X7_types : GoodIn wsX7_typesNumber wsX7_types := goodIn_r _ [5, 6, 7, 8, 9, 10, 11, 12, 13, 14] (by decide +kernel) (by decide +kernel)
set_option maxRecDepth 20000 in
theorem gX7_typesNumber_X7_types : GoodIn wsX7_typesNumber (wsV RX7 138 RX7 yX7_types wsX7_types) := goodIn_app (goodIn_of _ (by decide +kernel)) ggX7_typesNumber_X7_types
theorem dX7_typesNumber_0 : decode cX7_typesNumber 0 = .ok (.iconst 1, 1) := by decide +kernel
theorem dX7_typesNumber_1 : decode cX7_typesNumber 1 = .ok (.istore_n 2, 1) := by decide +kernel
theorem dX7_typesNumber_2 : decode cX7_typesNumber 2 = .ok (.iload_n 1, 1) := by decide +kernel
theorem dX7_typesNumber_3 : decode cX7_typesNumber 3 = .ok (.iload_n 2, 1) := by decide +kernel
theorem dX7_typesNumber_4 : decode cX7_typesNumber 4 = .ok (.idiv, 1) := by decide +kernel
theorem dX7_typesNumber_5 : decode cX7_typesNumber 5 = .ok (.bipush 9, 2) := by decide +kernel
theorem dX7_typesNumber_7 : decode cX7_typesNumber 7 = .ok (.if_icmp .le 11, 3) := by decide +kernel
theorem dX7_typesNumber_10 : decode cX7_typesNumber 10 = .ok (.iload_n 2, 1) := by decide +kernel
theorem dX7_typesNumber_11 : decode cX7_typesNumber 11 = .ok (.bipush 10, 2) := by decide +kernel
theorem dX7_typesNumber_13 : decode cX7_typesNumber 13 = .ok (.imul, 1) := by decide +kernel
theorem dX7_typesNumber_14 : decode cX7_typesNumber 14 = .ok (.istore_n 2, 1) := by decide +kernel
theorem dX7_typesNumber_15 : decode cX7_typesNumber 15 = .ok (.goto (-13), 3) := by decide +kernel
theorem dX7_typesNumber_18 : decode cX7_typesNumber 18 = .ok (.iload_n 2, 1) := by decide +kernel
theorem dX7_typesNumber_19 : decode cX7_typesNumber 19 = .ok (.ifCond .le 24, 3) := by decide +kernel
theorem dX7_typesNumber_22 : decode cX7_typesNumber 22 = .ok (.aload_n 0, 1) := by decide +kernel
theorem dX7_typesNumber_23 : decode cX7_typesNumber 23 = .ok (.bipush 48, 2) := by decide +kernel
theorem dX7_typesNumber_25 : decode cX7_typesNumber 25 = .ok (.iload_n 1, 1) := by decide +kernel
theorem dX7_typesNumber_26 : decode cX7_typesNumber 26 = .ok (.iload_n 2, 1) := by decide +kernel
theorem dX7_typesNumber_27 : decode cX7_typesNumber 27 = .ok (.idiv, 1) := by decide +kernel
theorem dX7_typesNumber_28 : decode cX7_typesNumber 28 = .ok (.bipush 10, 2) := by decide +kernel
theorem dX7_typesNumber_30 : decode cX7_typesNumber 30 = .ok (.irem, 1) := by decide +kernel
theorem dX7_typesNumber_31 : decode cX7_typesNumber 31 = .ok (.iadd, 1) := by decide +kernel
theorem dX7_typesNumber_32 : decode cX7_typesNumber 32 = .ok (.invokevirtual 138, 3) := by decide +kernel
theorem dX7_typesNumber_35 : decode cX7_typesNumber 35 = .ok (.iload_n 2, 1) := by decide +kernel
theorem dX7_typesNumber_36 : decode cX7_typesNumber 36 = .ok (.bipush 10, 2) := by decide +kernel
theorem dX7_typesNumber_38 : decode cX7_typesNumber 38 = .ok (.idiv, 1) := by decide +kernel
theorem dX7_typesNumber_39 : decode cX7_typesNumber 39 = .ok (.istore_n 2, 1) := by decide +kernel
theorem dX7_typesNumber_40 : decode cX7_typesNumber 40 = .ok (.goto (-22), 3) := by decide +kernel
theorem dX7_typesNumber_43 : decode cX7_typesNumber 43 = .ok (.return_, 1) := by decide +kernel
set_option maxRecDepth 20000 in
theorem ggX7_write_X7_isMeter : GoodIn wsX7_write wsX7_isMeter := goodIn_r _ [6, 7, 8, 9, 5, 10, 11, 12, 13, 14, 31, 32, 33, 34, 35, 36, 37] (by decide +kernel) (by decide +kernel)
set_option maxRecDepth 20000 in
theorem gX7_write_X7_isMeter : GoodIn wsX7_write (wsV RX7 95 RX7 yX7_isMeter wsX7_isMeter) := goodIn_app (goodIn_of _ (by decide +kernel)) ggX7_write_X7_isMeter
set_option maxRecDepth 20000 in
theorem ggX7_write_X7_types : GoodIn wsX7_write wsX7_types := goodIn_r _ [18, 19, 1, 31, 32, 33, 34, 35, 36, 37] (by decide +kernel) (by decide +kernel)
set_option maxRecDepth 20000 in
theorem gX7_write_X7_types : GoodIn wsX7_write (wsV RX7 138 RX7 yX7_types wsX7_types) := goodIn_app (goodIn_of _ (by decide +kernel)) ggX7_write_X7_types
set_option maxRecDepth 20000 in
theorem ggX7_write_X7_its : GoodIn wsX7_write wsX7_its := goodIn_r _ [23, 11, 24, 25, 5, 26, 31, 32, 33, 34, 35, 36, 37] (by decide +kernel) (by decide +kernel)
set_option maxRecDepth 20000 in
theorem gX7_write_X7_its : GoodIn wsX7_write (wsV RX7 53 RX7 yX7_its wsX7_its) := goodIn_app (goodIn_of _ (by decide +kernel)) ggX7_write_X7_its
set_option maxRecDepth 20000 in
theorem ggX7_write_X7_typesNumber : GoodIn wsX7_write wsX7_typesNumber := goodIn_r _ [30, 15, 16, 17, 5, 18, 19, 1, 31, 32, 33, 34, 35, 36, 37] (by decide +kernel) (by decide +kernel)
set_option maxRecDepth 20000 in
theorem gX7_write_X7_typesNumber : GoodIn wsX7_write (wsV RX7 142 RX7 yX7_typesNumber wsX7_typesNumber) := goodIn_app (goodIn_of _ (by decide +kernel)) ggX7_write_X7_typesNumber
theorem dX7_write_0 : decode cX7_write 0 = .ok (.aload_n 0, 1) := by decide +kernel
theorem dX7_write_1 : decode cX7_write 1 = .ok (.iload_n 1, 1) := by decide +kernel
theorem dX7_write_2 : decode cX7_write 2 = .ok (.invokevirtual 95, 3) := by decide +kernel
theorem dX7_write_5 : decode cX7_write 5 = .ok (.ifCond .ne 5, 3) := by decide +kernel
theorem dX7_write_8 : decode cX7_write 8 = .ok (.iconst (-1), 1) := by decide +kernel
theorem dX7_write_9 : decode cX7_write 9 = .ok (.ireturn, 1) := by decide +kernel
theorem dX7_write_10 : decode cX7_write 10 = .ok (.aload_n 0, 1) := by decide +kernel
theorem dX7_write_11 : decode cX7_write 11 = .ok (.iconst 0, 1) := by decide +kernel
theorem dX7_write_12 : decode cX7_write 12 = .ok (.putfield 135, 3) := by decide +kernel
theorem dX7_write_15 : decode cX7_write 15 = .ok (.aload_n 0, 1) := by decide +kernel
theorem dX7_write_16 : decode cX7_write 16 = .ok (.bipush 100, 2) := by decide +kernel
theorem dX7_write_18 : decode cX7_write 18 = .ok (.invokevirtual 138, 3) := by decide +kernel
theorem dX7_write_21 : decode cX7_write 21 = .ok (.aload_n 0, 1) := by decide +kernel
theorem dX7_write_22 : decode cX7_write 22 = .ok (.aload_n 0, 1) := by decide +kernel
theorem dX7_write_23 : decode cX7_write 23 = .ok (.iload_n 1, 1) := by decide +kernel
theorem dX7_write_24 : decode cX7_write 24 = .ok (.iconst 3, 1) := by decide +kernel
theorem dX7_write_25 : decode cX7_write 25 = .ok (.invokevirtual 53, 3) := by decide +kernel
theorem dX7_write_28 : decode cX7_write 28 = .ok (.invokevirtual 142, 3) := by decide +kernel
theorem dX7_write_31 : decode cX7_write 31 = .ok (.aload_n 0, 1) := by decide +kernel
theorem dX7_write_32 : decode cX7_write 32 = .ok (.bipush 110, 2) := by decide +kernel
theorem dX7_write_34 : decode cX7_write 34 = .ok (.invokevirtual 138, 3) := by decide +kernel
theorem dX7_write_37 : decode cX7_write 37 = .ok (.aload_n 0, 1) := by decide +kernel
theorem dX7_write_38 : decode cX7_write 38 = .ok (.aload_n 0, 1) := by decide +kernel
theorem dX7_write_39 : decode cX7_write 39 = .ok (.iload_n 1, 1) := by decide +kernel
theorem dX7_write_40 : decode cX7_write 40 = .ok (.iconst 4, 1) := by decide +kernel
theorem dX7_write_41 : decode cX7_write 41 = .ok (.invokevirtual 53, 3) := by decide +kernel
theorem dX7_write_44 : decode cX7_write 44 = .ok (.invokevirtual 142, 3) := by decide +kernel
theorem dX7_write_47 : decode cX7_write 47 = .ok (.aload_n 0, 1) := by decide +kernel
theorem dX7_write_48 : decode cX7_write 48 = .ok (.bipush 35, 2) := by decide +kernel
theorem dX7_write_50 : decode cX7_write 50 = .ok (.invokevirtual 138, 3) := by decide +kernel
theorem dX7_write_53 : decode cX7_write 53 = .ok (.aload_n 0, 1) := by decide +kernel
theorem dX7_write_54 : decode cX7_write 54 = .ok (.aload_n 0, 1) := by decide +kernel
theorem dX7_write_55 : decode cX7_write 55 = .ok (.iload_n 1, 1) := by decide +kernel
theorem dX7_write_56 : decode cX7_write 56 = .ok (.bipush 6, 2) := by decide +kernel
theorem dX7_write_58 : decode cX7_write 58 = .ok (.invokevirtual 53, 3) := by decide +kernel
theorem dX7_write_61 : decode cX7_write 61 = .ok (.invokevirtual 142, 3) := by decide +kernel
theorem dX7_write_64 : decode cX7_write 64 = .ok (.aload_n 0, 1) := by decide +kernel
theorem dX7_write_65 : decode cX7_write 65 = .ok (.iload_n 1, 1) := by decide +kernel
theorem dX7_write_66 : decode cX7_write 66 = .ok (.bipush 7, 2) := by decide +kernel
theorem dX7_write_68 : decode cX7_write 68 = .ok (.invokevirtual 53, 3) := by decide +kernel
theorem dX7_write_71 : decode cX7_write 71 = .ok (.iconst 1, 1) := by decide +kernel
theorem dX7_write_72 : decode cX7_write 72 = .ok (.if_icmp .ne 9, 3) := by decide +kernel
theorem dX7_write_75 : decode cX7_write 75 = .ok (.aload_n 0, 1) := by decide +kernel
theorem dX7_write_76 : decode cX7_write 76 = .ok (.bipush 33, 2) := by decide +kernel
theorem dX7_write_78 : decode cX7_write 78 = .ok (.invokevirtual 138, 3) := by decide +kernel
theorem dX7_write_81 : decode cX7_write 81 = .ok (.aload_n 0, 1) := by decide +kernel
theorem dX7_write_82 : decode cX7_write 82 = .ok (.getfield 135, 3) := by decide +kernel
theorem dX7_write_85 : decode cX7_write 85 = .ok (.ireturn, 1) := by decide +kernel
set_option maxRecDepth 20000 in
theorem ggX7_sign_X7_in : GoodIn wsX7_sign wsX7_in := goodIn_r _ [6] (by decide +kernel) (by decide +kernel)
set_option maxRecDepth 20000 in
theorem gX7_sign_X7_in : GoodIn wsX7_sign (va_wsS RX7 41 yX7_in wsX7_in) := goodIn_app (goodIn_of _ (by decide +kernel)) ggX7_sign_X7_in
theorem dX7_sign_0 : decode cX7_sign 0 = .ok (.iload_n 1, 1) := by decide +kernel
theorem dX7_sign_1 : decode cX7_sign 1 = .ok (.iconst 0, 1) := by decide +kernel
theorem dX7_sign_2 : decode cX7_sign 2 = .ok (.aload_n 0, 1) := by decide +kernel
theorem dX7_sign_3 : decode cX7_sign 3 = .ok (.getfield 135, 3) := by decide +kernel
end
section
theorem dX7_sign_6 : decode cX7_sign 6 = .ok (.iconst 1, 1) := by decide +kernel
theorem dX7_sign_7 : decode cX7_sign 7 = .ok (.isub, 1) := by decide +kernel
theorem dX7_sign_8 : decode cX7_sign 8 = .ok (.invokestatic 41, 3) := by decide +kernel
theorem dX7_sign_11 : decode cX7_sign 11 = .ok (.ifCond .eq 12, 3) := by decide +kernel
theorem dX7_sign_14 : decode cX7_sign 14 = .ok (.aload_n 0, 1) := by decide +kernel
theorem dX7_sign_15 : decode cX7_sign 15 = .ok (.getfield 23, 3) := by decide +kernel
theorem dX7_sign_18 : decode cX7_sign 18 = .ok (.iload_n 1, 1) := by decide +kernel
theorem dX7_sign_19 : decode cX7_sign 19 = .ok (.iaload, 1) := by decide +kernel
theorem dX7_sign_20 : decode cX7_sign 20 = .ok (.goto 4, 3) := by decide +kernel
theorem dX7_sign_23 : decode cX7_sign 23 = .ok (.iconst (-1), 1) := by decide +kernel
theorem dX7_sign_24 : decode cX7_sign 24 = .ok (.ireturn, 1) := by decide +kernel
set_option maxRecDepth 20000 in
theorem ggX7_untilWeaker_X7_num : GoodIn wsX7_untilWeaker wsX7_num := goodIn_r _ [5, 6, 14, 15, 16, 17, 18, 19, 20] (by decide +kernel) (by decide +kernel)
set_option maxRecDepth 20000 in
theorem gX7_untilWeaker_X7_num : GoodIn wsX7_untilWeaker (wsV RX7 37 RX7 yX7_num wsX7_num) := goodIn_app (goodIn_of _ (by decide +kernel)) ggX7_untilWeaker_X7_num
set_option maxRecDepth 20000 in
theorem ggX7_untilWeaker_X7_its : GoodIn wsX7_untilWeaker wsX7_its := goodIn_r _ [10, 6, 11, 12, 4, 13, 14, 15, 16, 17, 18, 19, 20] (by decide +kernel) (by decide +kernel)
set_option maxRecDepth 20000 in
theorem gX7_untilWeaker_X7_its : GoodIn wsX7_untilWeaker (wsV RX7 53 RX7 yX7_its wsX7_its) := goodIn_app (goodIn_of _ (by decide +kernel)) ggX7_untilWeaker_X7_its
theorem dX7_untilWeaker_0 : decode cX7_untilWeaker 0 = .ok (.aload_n 0, 1) := by decide +kernel
theorem dX7_untilWeaker_1 : decode cX7_untilWeaker 1 = .ok (.iconst 3, 1) := by decide +kernel
theorem dX7_untilWeaker_2 : decode cX7_untilWeaker 2 = .ok (.invokevirtual 37, 3) := by decide +kernel
theorem dX7_untilWeaker_5 : decode cX7_untilWeaker 5 = .ok (.aload_n 0, 1) := by decide +kernel
theorem dX7_untilWeaker_6 : decode cX7_untilWeaker 6 = .ok (.iload_n 1, 1) := by decide +kernel
theorem dX7_untilWeaker_7 : decode cX7_untilWeaker 7 = .ok (.bipush 9, 2) := by decide +kernel
theorem dX7_untilWeaker_9 : decode cX7_untilWeaker 9 = .ok (.invokevirtual 53, 3) := by decide +kernel
theorem dX7_untilWeaker_12 : decode cX7_untilWeaker 12 = .ok (.isub, 1) := by decide +kernel
theorem dX7_untilWeaker_13 : decode cX7_untilWeaker 13 = .ok (.istore_n 2, 1) := by decide +kernel
theorem dX7_untilWeaker_14 : decode cX7_untilWeaker 14 = .ok (.aload_n 0, 1) := by decide +kernel
theorem dX7_untilWeaker_15 : decode cX7_untilWeaker 15 = .ok (.iload_n 1, 1) := by decide +kernel
theorem dX7_untilWeaker_16 : decode cX7_untilWeaker 16 = .ok (.iconst 2, 1) := by decide +kernel
theorem dX7_untilWeaker_17 : decode cX7_untilWeaker 17 = .ok (.invokevirtual 53, 3) := by decide +kernel
theorem dX7_untilWeaker_20 : decode cX7_untilWeaker 20 = .ok (.sipush 160, 3) := by decide +kernel
theorem dX7_untilWeaker_23 : decode cX7_untilWeaker 23 = .ok (.if_icmp .ne 8, 3) := by decide +kernel
theorem dX7_untilWeaker_26 : decode cX7_untilWeaker 26 = .ok (.bipush (-6), 2) := by decide +kernel
theorem dX7_untilWeaker_28 : decode cX7_untilWeaker 28 = .ok (.goto 13, 3) := by decide +kernel
theorem dX7_untilWeaker_31 : decode cX7_untilWeaker 31 = .ok (.iload_n 2, 1) := by decide +kernel
theorem dX7_untilWeaker_32 : decode cX7_untilWeaker 32 = .ok (.iconst 1, 1) := by decide +kernel
theorem dX7_untilWeaker_33 : decode cX7_untilWeaker 33 = .ok (.if_icmp .ge 7, 3) := by decide +kernel
theorem dX7_untilWeaker_36 : decode cX7_untilWeaker 36 = .ok (.iconst 1, 1) := by decide +kernel
theorem dX7_untilWeaker_37 : decode cX7_untilWeaker 37 = .ok (.goto 4, 3) := by decide +kernel
theorem dX7_untilWeaker_40 : decode cX7_untilWeaker 40 = .ok (.iload_n 2, 1) := by decide +kernel
theorem dX7_untilWeaker_41 : decode cX7_untilWeaker 41 = .ok (.ireturn, 1) := by decide +kernel
set_option maxRecDepth 20000 in
theorem ggX7_of_X7_isMeter : GoodIn wsX7_of wsX7_isMeter := goodIn_r _ [7, 8, 9, 10, 6, 11, 1, 12, 13, 14, 34, 35, 36, 37, 38, 39, 40] (by decide +kernel) (by decide +kernel)
set_option maxRecDepth 20000 in
theorem gX7_of_X7_isMeter : GoodIn wsX7_of (wsV RX7 95 RX7 yX7_isMeter wsX7_isMeter) := goodIn_app (goodIn_of _ (by decide +kernel)) ggX7_of_X7_isMeter
set_option maxRecDepth 20000 in
theorem ggX7_of_X7_its : GoodIn wsX7_of wsX7_its := goodIn_r _ [18, 1, 19, 20, 6, 21, 34, 35, 36, 37, 38, 39, 40] (by decide +kernel) (by decide +kernel)
set_option maxRecDepth 20000 in
theorem gX7_of_X7_its : GoodIn wsX7_of (wsV RX7 53 RX7 yX7_its wsX7_its) := goodIn_app (goodIn_of _ (by decide +kernel)) ggX7_of_X7_its
set_option maxRecDepth 20000 in
theorem ggX7_of_X7_power : GoodIn wsX7_of wsX7_power := goodIn_r _ [25, 1, 8, 9, 10, 6, 11, 26, 27, 28, 29, 15, 16, 17, 18, 19, 20, 21, 34, 35, 36, 37, 38, 39, 40] (by decide +kernel) (by decide +kernel)
set_option maxRecDepth 20000 in
theorem gX7_of_X7_power : GoodIn wsX7_of (wsV RX7 70 RX7 yX7_power wsX7_power) := goodIn_app (goodIn_of _ (by decide +kernel)) ggX7_of_X7_power
set_option maxRecDepth 20000 in
theorem ggX7_of_X7_at : GoodIn wsX7_of wsX7_at := goodIn_r _ [21] (by decide +kernel) (by decide +kernel)
set_option maxRecDepth 20000 in
theorem gX7_of_X7_at : GoodIn wsX7_of (va_wsS RX7 45 yX7_at wsX7_at) := goodIn_app (goodIn_of _ (by decide +kernel)) ggX7_of_X7_at
set_option maxRecDepth 20000 in
theorem ggX7_of_X7_untilWeaker : GoodIn wsX7_of wsX7_untilWeaker := goodIn_r _ [33, 8, 9, 10, 6, 11, 1, 15, 16, 17, 18, 19, 20, 21, 34, 35, 36, 37, 38, 39, 40] (by decide +kernel) (by decide +kernel)
set_option maxRecDepth 20000 in
theorem gX7_of_X7_untilWeaker : GoodIn wsX7_of (wsV RX7 145 RX7 yX7_untilWeaker wsX7_untilWeaker) := goodIn_app (goodIn_of _ (by decide +kernel)) ggX7_of_X7_untilWeaker
theorem dX7_of_0 : decode cX7_of 0 = .ok (.aload_n 0, 1) := by decide +kernel
theorem dX7_of_1 : decode cX7_of 1 = .ok (.iload_n 1, 1) := by decide +kernel
theorem dX7_of_2 : decode cX7_of 2 = .ok (.invokevirtual 95, 3) := by decide +kernel
theorem dX7_of_5 : decode cX7_of 5 = .ok (.ifCond .ne 5, 3) := by decide +kernel
theorem dX7_of_8 : decode cX7_of 8 = .ok (.iconst (-1), 1) := by decide +kernel
theorem dX7_of_9 : decode cX7_of 9 = .ok (.ireturn, 1) := by decide +kernel
theorem dX7_of_10 : decode cX7_of 10 = .ok (.iload_n 2, 1) := by decide +kernel
theorem dX7_of_11 : decode cX7_of 11 = .ok (.tableswitch 153 0 11 #[61, 82, 88, 88, 88, 88, 97, 115, 123, 131, 139, 145], 61) := by decide +kernel
theorem dX7_of_72 : decode cX7_of 72 = .ok (.aload_n 0, 1) := by decide +kernel
theorem dX7_of_73 : decode cX7_of 73 = .ok (.iload_n 1, 1) := by decide +kernel
theorem dX7_of_74 : decode cX7_of 74 = .ok (.iconst 0, 1) := by decide +kernel
theorem dX7_of_75 : decode cX7_of 75 = .ok (.invokevirtual 53, 3) := by decide +kernel
theorem dX7_of_78 : decode cX7_of 78 = .ok (.ifCond .ge 8, 3) := by decide +kernel
theorem dX7_of_81 : decode cX7_of 81 = .ok (.bipush (-6), 2) := by decide +kernel
theorem dX7_of_83 : decode cX7_of 83 = .ok (.goto 9, 3) := by decide +kernel
theorem dX7_of_86 : decode cX7_of 86 = .ok (.aload_n 0, 1) := by decide +kernel
theorem dX7_of_87 : decode cX7_of 87 = .ok (.iload_n 1, 1) := by decide +kernel
theorem dX7_of_88 : decode cX7_of 88 = .ok (.iconst 0, 1) := by decide +kernel
theorem dX7_of_89 : decode cX7_of 89 = .ok (.invokevirtual 53, 3) := by decide +kernel
theorem dX7_of_92 : decode cX7_of 92 = .ok (.ireturn, 1) := by decide +kernel
theorem dX7_of_93 : decode cX7_of 93 = .ok (.aload_n 0, 1) := by decide +kernel
theorem dX7_of_94 : decode cX7_of 94 = .ok (.iload_n 1, 1) := by decide +kernel
theorem dX7_of_95 : decode cX7_of 95 = .ok (.invokevirtual 70, 3) := by decide +kernel
theorem dX7_of_98 : decode cX7_of 98 = .ok (.ireturn, 1) := by decide +kernel
theorem dX7_of_99 : decode cX7_of 99 = .ok (.aload_n 0, 1) := by decide +kernel
theorem dX7_of_100 : decode cX7_of 100 = .ok (.iload_n 1, 1) := by decide +kernel
theorem dX7_of_101 : decode cX7_of 101 = .ok (.iload_n 2, 1) := by decide +kernel
theorem dX7_of_102 : decode cX7_of 102 = .ok (.iconst 1, 1) := by decide +kernel
theorem dX7_of_103 : decode cX7_of 103 = .ok (.isub, 1) := by decide +kernel
theorem dX7_of_104 : decode cX7_of 104 = .ok (.invokevirtual 53, 3) := by decide +kernel
theorem dX7_of_107 : decode cX7_of 107 = .ok (.ireturn, 1) := by decide +kernel
theorem dX7_of_108 : decode cX7_of 108 = .ok (.aload_n 0, 1) := by decide +kernel
theorem dX7_of_109 : decode cX7_of 109 = .ok (.getfield 7, 3) := by decide +kernel
theorem dX7_of_112 : decode cX7_of 112 = .ok (.iconst 0, 1) := by decide +kernel
theorem dX7_of_113 : decode cX7_of 113 = .ok (.iload_n 1, 1) := by decide +kernel
theorem dX7_of_114 : decode cX7_of 114 = .ok (.invokestatic 45, 3) := by decide +kernel
theorem dX7_of_117 : decode cX7_of 117 = .ok (.iconst 5, 1) := by decide +kernel
theorem dX7_of_118 : decode cX7_of 118 = .ok (.iadd, 1) := by decide +kernel
theorem dX7_of_119 : decode cX7_of 119 = .ok (.laload, 1) := by decide +kernel
theorem dX7_of_120 : decode cX7_of 120 = .ok (.ldc2_w 68, 3) := by decide +kernel
theorem dX7_of_123 : decode cX7_of 123 = .ok (.ldiv, 1) := by decide +kernel
theorem dX7_of_124 : decode cX7_of 124 = .ok (.l2i, 1) := by decide +kernel
theorem dX7_of_125 : decode cX7_of 125 = .ok (.ireturn, 1) := by decide +kernel
theorem dX7_of_126 : decode cX7_of 126 = .ok (.aload_n 0, 1) := by decide +kernel
theorem dX7_of_127 : decode cX7_of 127 = .ok (.iload_n 1, 1) := by decide +kernel
theorem dX7_of_128 : decode cX7_of 128 = .ok (.bipush 6, 2) := by decide +kernel
theorem dX7_of_130 : decode cX7_of 130 = .ok (.invokevirtual 53, 3) := by decide +kernel
theorem dX7_of_133 : decode cX7_of 133 = .ok (.ireturn, 1) := by decide +kernel
theorem dX7_of_134 : decode cX7_of 134 = .ok (.aload_n 0, 1) := by decide +kernel
theorem dX7_of_135 : decode cX7_of 135 = .ok (.iload_n 1, 1) := by decide +kernel
theorem dX7_of_136 : decode cX7_of 136 = .ok (.bipush 7, 2) := by decide +kernel
theorem dX7_of_138 : decode cX7_of 138 = .ok (.invokevirtual 53, 3) := by decide +kernel
theorem dX7_of_141 : decode cX7_of 141 = .ok (.ireturn, 1) := by decide +kernel
theorem dX7_of_142 : decode cX7_of 142 = .ok (.aload_n 0, 1) := by decide +kernel
theorem dX7_of_143 : decode cX7_of 143 = .ok (.iload_n 1, 1) := by decide +kernel
theorem dX7_of_144 : decode cX7_of 144 = .ok (.bipush 8, 2) := by decide +kernel
theorem dX7_of_146 : decode cX7_of 146 = .ok (.invokevirtual 53, 3) := by decide +kernel
theorem dX7_of_149 : decode cX7_of 149 = .ok (.ireturn, 1) := by decide +kernel
theorem dX7_of_150 : decode cX7_of 150 = .ok (.aload_n 0, 1) := by decide +kernel
theorem dX7_of_151 : decode cX7_of 151 = .ok (.iload_n 1, 1) := by decide +kernel
theorem dX7_of_152 : decode cX7_of 152 = .ok (.invokevirtual 145, 3) := by decide +kernel
theorem dX7_of_155 : decode cX7_of 155 = .ok (.ireturn, 1) := by decide +kernel
theorem dX7_of_156 : decode cX7_of 156 = .ok (.aload_n 0, 1) := by decide +kernel
theorem dX7_of_157 : decode cX7_of 157 = .ok (.iload_n 1, 1) := by decide +kernel
theorem dX7_of_158 : decode cX7_of 158 = .ok (.bipush 10, 2) := by decide +kernel
theorem dX7_of_160 : decode cX7_of 160 = .ok (.invokevirtual 53, 3) := by decide +kernel
theorem dX7_of_163 : decode cX7_of 163 = .ok (.ireturn, 1) := by decide +kernel
theorem dX7_of_164 : decode cX7_of 164 = .ok (.bipush (-2), 2) := by decide +kernel
theorem dX7_of_166 : decode cX7_of 166 = .ok (.ireturn, 1) := by decide +kernel
set_option maxRecDepth 20000 in
theorem ggX7_ofLoad_X7_isLoad : GoodIn wsX7_ofLoad wsX7_isLoad := goodIn_r _ [5, 6, 7, 8, 4, 9, 10, 11, 12, 13, 14, 15, 16, 17, 18, 19, 20] (by decide +kernel) (by decide +kernel)
set_option maxRecDepth 20000 in
theorem gX7_ofLoad_X7_isLoad : GoodIn wsX7_ofLoad (wsV RX7 113 RX7 yX7_isLoad wsX7_isLoad) := goodIn_app (goodIn_of _ (by decide +kernel)) ggX7_ofLoad_X7_isLoad
set_option maxRecDepth 20000 in
theorem ggX7_ofLoad_X7_in : GoodIn wsX7_ofLoad wsX7_in := goodIn_r _ [13] (by decide +kernel) (by decide +kernel)
set_option maxRecDepth 20000 in
theorem gX7_ofLoad_X7_in : GoodIn wsX7_ofLoad (va_wsS RX7 41 yX7_in wsX7_in) := goodIn_app (goodIn_of _ (by decide +kernel)) ggX7_ofLoad_X7_in
set_option maxRecDepth 20000 in
theorem ggX7_ofLoad_X7_num : GoodIn wsX7_ofLoad wsX7_num := goodIn_r _ [9, 10, 14, 15, 16, 17, 18, 19, 20] (by decide +kernel) (by decide +kernel)
set_option maxRecDepth 20000 in
theorem gX7_ofLoad_X7_num : GoodIn wsX7_ofLoad (wsV RX7 37 RX7 yX7_num wsX7_num) := goodIn_app (goodIn_of _ (by decide +kernel)) ggX7_ofLoad_X7_num
theorem dX7_ofLoad_0 : decode cX7_ofLoad 0 = .ok (.aload_n 0, 1) := by decide +kernel
theorem dX7_ofLoad_1 : decode cX7_ofLoad 1 = .ok (.iload_n 1, 1) := by decide +kernel
theorem dX7_ofLoad_2 : decode cX7_ofLoad 2 = .ok (.invokevirtual 113, 3) := by decide +kernel
theorem dX7_ofLoad_5 : decode cX7_ofLoad 5 = .ok (.ifCond .ne 5, 3) := by decide +kernel
theorem dX7_ofLoad_8 : decode cX7_ofLoad 8 = .ok (.iconst (-1), 1) := by decide +kernel
theorem dX7_ofLoad_9 : decode cX7_ofLoad 9 = .ok (.ireturn, 1) := by decide +kernel
theorem dX7_ofLoad_10 : decode cX7_ofLoad 10 = .ok (.iload_n 2, 1) := by decide +kernel
theorem dX7_ofLoad_11 : decode cX7_ofLoad 11 = .ok (.iconst 0, 1) := by decide +kernel
theorem dX7_ofLoad_12 : decode cX7_ofLoad 12 = .ok (.iconst 2, 1) := by decide +kernel
theorem dX7_ofLoad_13 : decode cX7_ofLoad 13 = .ok (.invokestatic 41, 3) := by decide +kernel
theorem dX7_ofLoad_16 : decode cX7_ofLoad 16 = .ok (.ifCond .eq 18, 3) := by decide +kernel
theorem dX7_ofLoad_19 : decode cX7_ofLoad 19 = .ok (.aload_n 0, 1) := by decide +kernel
theorem dX7_ofLoad_20 : decode cX7_ofLoad 20 = .ok (.bipush 102, 2) := by decide +kernel
theorem dX7_ofLoad_22 : decode cX7_ofLoad 22 = .ok (.iconst 3, 1) := by decide +kernel
theorem dX7_ofLoad_23 : decode cX7_ofLoad 23 = .ok (.iload_n 1, 1) := by decide +kernel
theorem dX7_ofLoad_24 : decode cX7_ofLoad 24 = .ok (.imul, 1) := by decide +kernel
theorem dX7_ofLoad_25 : decode cX7_ofLoad 25 = .ok (.iadd, 1) := by decide +kernel
theorem dX7_ofLoad_26 : decode cX7_ofLoad 26 = .ok (.iload_n 2, 1) := by decide +kernel
theorem dX7_ofLoad_27 : decode cX7_ofLoad 27 = .ok (.iadd, 1) := by decide +kernel
theorem dX7_ofLoad_28 : decode cX7_ofLoad 28 = .ok (.invokevirtual 37, 3) := by decide +kernel
theorem dX7_ofLoad_31 : decode cX7_ofLoad 31 = .ok (.goto 5, 3) := by decide +kernel
theorem dX7_ofLoad_34 : decode cX7_ofLoad 34 = .ok (.bipush (-2), 2) := by decide +kernel
theorem dX7_ofLoad_36 : decode cX7_ofLoad 36 = .ok (.ireturn, 1) := by decide +kernel
set_option maxRecDepth 20000 in
theorem ggX7_turnsOf_X7_its : GoodIn wsX7_turnsOf wsX7_its := goodIn_r _ [5, 6, 7, 8, 4, 9, 10, 11, 12, 13, 14, 15, 16] (by decide +kernel) (by decide +kernel)
set_option maxRecDepth 20000 in
theorem gX7_turnsOf_X7_its : GoodIn wsX7_turnsOf (wsV RX7 53 RX7 yX7_its wsX7_its) := goodIn_app (goodIn_of _ (by decide +kernel)) ggX7_turnsOf_X7_its
theorem dX7_turnsOf_0 : decode cX7_turnsOf 0 = .ok (.aload_n 0, 1) := by decide +kernel
theorem dX7_turnsOf_1 : decode cX7_turnsOf 1 = .ok (.iload_n 1, 1) := by decide +kernel
theorem dX7_turnsOf_2 : decode cX7_turnsOf 2 = .ok (.iconst 3, 1) := by decide +kernel
theorem dX7_turnsOf_3 : decode cX7_turnsOf 3 = .ok (.invokevirtual 53, 3) := by decide +kernel
theorem dX7_turnsOf_6 : decode cX7_turnsOf 6 = .ok (.aload_n 0, 1) := by decide +kernel
theorem dX7_turnsOf_7 : decode cX7_turnsOf 7 = .ok (.iload_n 1, 1) := by decide +kernel
theorem dX7_turnsOf_8 : decode cX7_turnsOf 8 = .ok (.iconst 4, 1) := by decide +kernel
theorem dX7_turnsOf_9 : decode cX7_turnsOf 9 = .ok (.invokevirtual 53, 3) := by decide +kernel
theorem dX7_turnsOf_12 : decode cX7_turnsOf 12 = .ok (.iadd, 1) := by decide +kernel
theorem dX7_turnsOf_13 : decode cX7_turnsOf 13 = .ok (.ireturn, 1) := by decide +kernel
set_option maxRecDepth 20000 in
theorem ggX7_misses_X7_isMeter : GoodIn wsX7_misses wsX7_isMeter := goodIn_r _ [9, 10, 11, 12, 8, 13, 2, 14, 15, 16, 28, 29, 30, 31, 32, 33, 34] (by decide +kernel) (by decide +kernel)
set_option maxRecDepth 20000 in
theorem gX7_misses_X7_isMeter : GoodIn wsX7_misses (wsV RX7 95 RX7 yX7_isMeter wsX7_isMeter) := goodIn_app (goodIn_of _ (by decide +kernel)) ggX7_misses_X7_isMeter
set_option maxRecDepth 20000 in
theorem ggX7_misses_X7_at : GoodIn wsX7_misses wsX7_at := goodIn_r _ [19] (by decide +kernel) (by decide +kernel)
set_option maxRecDepth 20000 in
theorem gX7_misses_X7_at : GoodIn wsX7_misses (va_wsS RX7 45 yX7_at wsX7_at) := goodIn_app (goodIn_of _ (by decide +kernel)) ggX7_misses_X7_at
set_option maxRecDepth 20000 in
theorem ggX7_misses_X7_turnsOf : GoodIn wsX7_misses wsX7_turnsOf := goodIn_r _ [23, 24, 25, 26, 8, 27, 2, 17, 18, 19, 28, 29, 30, 31, 32, 33, 34] (by decide +kernel) (by decide +kernel)
set_option maxRecDepth 20000 in
theorem gX7_misses_X7_turnsOf : GoodIn wsX7_misses (wsV RX7 148 RX7 yX7_turnsOf wsX7_turnsOf) := goodIn_app (goodIn_of _ (by decide +kernel)) ggX7_misses_X7_turnsOf
set_option maxRecDepth 20000 in
theorem ggX7_misses_X7_its : GoodIn wsX7_misses wsX7_its := goodIn_r _ [27, 2, 17, 18, 8, 19, 28, 29, 30, 31, 32, 33, 34] (by decide +kernel) (by decide +kernel)
set_option maxRecDepth 20000 in
theorem gX7_misses_X7_its : GoodIn wsX7_misses (wsV RX7 53 RX7 yX7_its wsX7_its) := goodIn_app (goodIn_of _ (by decide +kernel)) ggX7_misses_X7_its
theorem dX7_misses_0 : decode cX7_misses 0 = .ok (.aload_n 0, 1) := by decide +kernel
theorem dX7_misses_1 : decode cX7_misses 1 = .ok (.iload_n 1, 1) := by decide +kernel
theorem dX7_misses_2 : decode cX7_misses 2 = .ok (.invokevirtual 95, 3) := by decide +kernel
theorem dX7_misses_5 : decode cX7_misses 5 = .ok (.ifCond .ne 7, 3) := by decide +kernel
theorem dX7_misses_8 : decode cX7_misses 8 = .ok (.ldc2_w 99, 3) := by decide +kernel
theorem dX7_misses_11 : decode cX7_misses 11 = .ok (.lreturn, 1) := by decide +kernel
theorem dX7_misses_12 : decode cX7_misses 12 = .ok (.aload_n 0, 1) := by decide +kernel
theorem dX7_misses_13 : decode cX7_misses 13 = .ok (.getfield 7, 3) := by decide +kernel
theorem dX7_misses_16 : decode cX7_misses 16 = .ok (.iconst 0, 1) := by decide +kernel
theorem dX7_misses_17 : decode cX7_misses 17 = .ok (.iload_n 1, 1) := by decide +kernel
theorem dX7_misses_18 : decode cX7_misses 18 = .ok (.invokestatic 45, 3) := by decide +kernel
theorem dX7_misses_21 : decode cX7_misses 21 = .ok (.iconst 5, 1) := by decide +kernel
theorem dX7_misses_22 : decode cX7_misses 22 = .ok (.iadd, 1) := by decide +kernel
theorem dX7_misses_23 : decode cX7_misses 23 = .ok (.laload, 1) := by decide +kernel
theorem dX7_misses_24 : decode cX7_misses 24 = .ok (.ldc2_w 68, 3) := by decide +kernel
theorem dX7_misses_27 : decode cX7_misses 27 = .ok (.aload_n 0, 1) := by decide +kernel
theorem dX7_misses_28 : decode cX7_misses 28 = .ok (.iload_n 1, 1) := by decide +kernel
theorem dX7_misses_29 : decode cX7_misses 29 = .ok (.invokevirtual 148, 3) := by decide +kernel
theorem dX7_misses_32 : decode cX7_misses 32 = .ok (.i2l, 1) := by decide +kernel
theorem dX7_misses_33 : decode cX7_misses 33 = .ok (.lmul, 1) := by decide +kernel
theorem dX7_misses_34 : decode cX7_misses 34 = .ok (.lsub, 1) := by decide +kernel
theorem dX7_misses_35 : decode cX7_misses 35 = .ok (.aload_n 0, 1) := by decide +kernel
theorem dX7_misses_36 : decode cX7_misses 36 = .ok (.iload_n 1, 1) := by decide +kernel
theorem dX7_misses_37 : decode cX7_misses 37 = .ok (.iconst 1, 1) := by decide +kernel
theorem dX7_misses_38 : decode cX7_misses 38 = .ok (.invokevirtual 53, 3) := by decide +kernel
theorem dX7_misses_41 : decode cX7_misses 41 = .ok (.i2l, 1) := by decide +kernel
theorem dX7_misses_42 : decode cX7_misses 42 = .ok (.lsub, 1) := by decide +kernel
theorem dX7_misses_43 : decode cX7_misses 43 = .ok (.ldc2_w 151, 3) := by decide +kernel
theorem dX7_misses_46 : decode cX7_misses 46 = .ok (.ladd, 1) := by decide +kernel
theorem dX7_misses_47 : decode cX7_misses 47 = .ok (.lreturn, 1) := by decide +kernel
set_option maxRecDepth 20000 in
theorem ggX7_fed_X7_isMeter : GoodIn wsX7_fed wsX7_isMeter := goodIn_r _ [5, 6, 7, 8, 4, 9, 10, 11, 12, 13, 25, 26, 27, 28, 29, 30, 31] (by decide +kernel) (by decide +kernel)
set_option maxRecDepth 20000 in
theorem gX7_fed_X7_isMeter : GoodIn wsX7_fed (wsV RX7 95 RX7 yX7_isMeter wsX7_isMeter) := goodIn_app (goodIn_of _ (by decide +kernel)) ggX7_fed_X7_isMeter
set_option maxRecDepth 20000 in
theorem ggX7_fed_X7_num : GoodIn wsX7_fed wsX7_num := goodIn_r _ [9, 10, 25, 26, 27, 28, 29, 30, 31] (by decide +kernel) (by decide +kernel)
set_option maxRecDepth 20000 in
theorem gX7_fed_X7_num : GoodIn wsX7_fed (wsV RX7 37 RX7 yX7_num wsX7_num) := goodIn_app (goodIn_of _ (by decide +kernel)) ggX7_fed_X7_num
set_option maxRecDepth 20000 in
theorem ggX7_fed_X7_isThrough : GoodIn wsX7_fed wsX7_isThrough := goodIn_r _ [17, 18, 19, 20, 4, 21, 10, 22, 23, 24, 25, 26, 27, 28, 29, 30, 31] (by decide +kernel) (by decide +kernel)
set_option maxRecDepth 20000 in
theorem gX7_fed_X7_isThrough : GoodIn wsX7_fed (wsV RX7 56 RX7 yX7_isThrough wsX7_isThrough) := goodIn_app (goodIn_of _ (by decide +kernel)) ggX7_fed_X7_isThrough
theorem dX7_fed_0 : decode cX7_fed 0 = .ok (.aload_n 0, 1) := by decide +kernel
theorem dX7_fed_1 : decode cX7_fed 1 = .ok (.iload_n 1, 1) := by decide +kernel
theorem dX7_fed_2 : decode cX7_fed 2 = .ok (.invokevirtual 95, 3) := by decide +kernel
theorem dX7_fed_5 : decode cX7_fed 5 = .ok (.ifCond .eq 7, 3) := by decide +kernel
theorem dX7_fed_8 : decode cX7_fed 8 = .ok (.iconst 0, 1) := by decide +kernel
theorem dX7_fed_9 : decode cX7_fed 9 = .ok (.goto 4, 3) := by decide +kernel
theorem dX7_fed_12 : decode cX7_fed 12 = .ok (.iconst (-1), 1) := by decide +kernel
theorem dX7_fed_13 : decode cX7_fed 13 = .ok (.istore_n 2, 1) := by decide +kernel
theorem dX7_fed_14 : decode cX7_fed 14 = .ok (.iconst 0, 1) := by decide +kernel
theorem dX7_fed_15 : decode cX7_fed 15 = .ok (.istore_n 3, 1) := by decide +kernel
theorem dX7_fed_16 : decode cX7_fed 16 = .ok (.iload_n 3, 1) := by decide +kernel
theorem dX7_fed_17 : decode cX7_fed 17 = .ok (.aload_n 0, 1) := by decide +kernel
theorem dX7_fed_18 : decode cX7_fed 18 = .ok (.bipush 7, 2) := by decide +kernel
theorem dX7_fed_20 : decode cX7_fed 20 = .ok (.invokevirtual 37, 3) := by decide +kernel
theorem dX7_fed_23 : decode cX7_fed 23 = .ok (.if_icmp .ge 32, 3) := by decide +kernel
theorem dX7_fed_26 : decode cX7_fed 26 = .ok (.iload_n 2, 1) := by decide +kernel
theorem dX7_fed_27 : decode cX7_fed 27 = .ok (.ifCond .lt 28, 3) := by decide +kernel
theorem dX7_fed_30 : decode cX7_fed 30 = .ok (.iload_n 2, 1) := by decide +kernel
theorem dX7_fed_31 : decode cX7_fed 31 = .ok (.aload_n 0, 1) := by decide +kernel
theorem dX7_fed_32 : decode cX7_fed 32 = .ok (.iload_n 3, 1) := by decide +kernel
theorem dX7_fed_33 : decode cX7_fed 33 = .ok (.iload_n 1, 1) := by decide +kernel
theorem dX7_fed_34 : decode cX7_fed 34 = .ok (.invokevirtual 56, 3) := by decide +kernel
theorem dX7_fed_37 : decode cX7_fed 37 = .ok (.ifCond .eq 9, 3) := by decide +kernel
theorem dX7_fed_40 : decode cX7_fed 40 = .ok (.iconst 1, 1) := by decide +kernel
theorem dX7_fed_41 : decode cX7_fed 41 = .ok (.iload_n 3, 1) := by decide +kernel
theorem dX7_fed_42 : decode cX7_fed 42 = .ok (.ishl, 1) := by decide +kernel
theorem dX7_fed_43 : decode cX7_fed 43 = .ok (.goto 4, 3) := by decide +kernel
theorem dX7_fed_46 : decode cX7_fed 46 = .ok (.iconst 0, 1) := by decide +kernel
theorem dX7_fed_47 : decode cX7_fed 47 = .ok (.ior, 1) := by decide +kernel
theorem dX7_fed_48 : decode cX7_fed 48 = .ok (.istore_n 2, 1) := by decide +kernel
theorem dX7_fed_49 : decode cX7_fed 49 = .ok (.iinc 3 1, 3) := by decide +kernel
theorem dX7_fed_52 : decode cX7_fed 52 = .ok (.goto (-36), 3) := by decide +kernel
theorem dX7_fed_55 : decode cX7_fed 55 = .ok (.iload_n 2, 1) := by decide +kernel
theorem dX7_fed_56 : decode cX7_fed 56 = .ok (.ireturn, 1) := by decide +kernel
set_option maxRecDepth 20000 in
theorem ggX7_ofAll_X7_num : GoodIn wsX7_ofAll wsX7_num := goodIn_r _ [6, 1, 18, 19, 20, 21, 22, 23, 24] (by decide +kernel) (by decide +kernel)
set_option maxRecDepth 20000 in
theorem gX7_ofAll_X7_num : GoodIn wsX7_ofAll (wsV RX7 37 RX7 yX7_num wsX7_num) := goodIn_app (goodIn_of _ (by decide +kernel)) ggX7_ofAll_X7_num
set_option maxRecDepth 20000 in
theorem ggX7_ofAll_X7_its : GoodIn wsX7_ofAll wsX7_its := goodIn_r _ [10, 1, 11, 12, 5, 13, 18, 19, 20, 21, 22, 23, 24] (by decide +kernel) (by decide +kernel)
set_option maxRecDepth 20000 in
theorem gX7_ofAll_X7_its : GoodIn wsX7_ofAll (wsV RX7 53 RX7 yX7_its wsX7_its) := goodIn_app (goodIn_of _ (by decide +kernel)) ggX7_ofAll_X7_its
set_option maxRecDepth 20000 in
theorem ggX7_ofAll_X7_turnsOf : GoodIn wsX7_ofAll wsX7_turnsOf := goodIn_r _ [17, 7, 8, 9, 5, 10, 1, 11, 12, 13, 18, 19, 20, 21, 22, 23, 24] (by decide +kernel) (by decide +kernel)
set_option maxRecDepth 20000 in
theorem gX7_ofAll_X7_turnsOf : GoodIn wsX7_ofAll (wsV RX7 148 RX7 yX7_turnsOf wsX7_turnsOf) := goodIn_app (goodIn_of _ (by decide +kernel)) ggX7_ofAll_X7_turnsOf
theorem dX7_ofAll_0 : decode cX7_ofAll 0 = .ok (.iconst 0, 1) := by decide +kernel
theorem dX7_ofAll_1 : decode cX7_ofAll 1 = .ok (.istore_n 2, 1) := by decide +kernel
theorem dX7_ofAll_2 : decode cX7_ofAll 2 = .ok (.iconst 0, 1) := by decide +kernel
theorem dX7_ofAll_3 : decode cX7_ofAll 3 = .ok (.istore_n 3, 1) := by decide +kernel
theorem dX7_ofAll_4 : decode cX7_ofAll 4 = .ok (.iload_n 3, 1) := by decide +kernel
theorem dX7_ofAll_5 : decode cX7_ofAll 5 = .ok (.aload_n 0, 1) := by decide +kernel
theorem dX7_ofAll_6 : decode cX7_ofAll 6 = .ok (.bipush 8, 2) := by decide +kernel
theorem dX7_ofAll_8 : decode cX7_ofAll 8 = .ok (.invokevirtual 37, 3) := by decide +kernel
theorem dX7_ofAll_11 : decode cX7_ofAll 11 = .ok (.if_icmp .ge 42, 3) := by decide +kernel
theorem dX7_ofAll_14 : decode cX7_ofAll 14 = .ok (.iload_n 1, 1) := by decide +kernel
theorem dX7_ofAll_15 : decode cX7_ofAll 15 = .ok (.iconst 4, 1) := by decide +kernel
theorem dX7_ofAll_16 : decode cX7_ofAll 16 = .ok (.if_icmp .ne 37, 3) := by decide +kernel
theorem dX7_ofAll_19 : decode cX7_ofAll 19 = .ok (.iload_n 2, 1) := by decide +kernel
theorem dX7_ofAll_20 : decode cX7_ofAll 20 = .ok (.aload_n 0, 1) := by decide +kernel
theorem dX7_ofAll_21 : decode cX7_ofAll 21 = .ok (.getfield 7, 3) := by decide +kernel
theorem dX7_ofAll_24 : decode cX7_ofAll 24 = .ok (.bipush 102, 2) := by decide +kernel
theorem dX7_ofAll_26 : decode cX7_ofAll 26 = .ok (.iconst 3, 1) := by decide +kernel
theorem dX7_ofAll_27 : decode cX7_ofAll 27 = .ok (.iload_n 3, 1) := by decide +kernel
theorem dX7_ofAll_28 : decode cX7_ofAll 28 = .ok (.imul, 1) := by decide +kernel
theorem dX7_ofAll_29 : decode cX7_ofAll 29 = .ok (.iadd, 1) := by decide +kernel
theorem dX7_ofAll_30 : decode cX7_ofAll 30 = .ok (.iconst 2, 1) := by decide +kernel
theorem dX7_ofAll_31 : decode cX7_ofAll 31 = .ok (.iadd, 1) := by decide +kernel
theorem dX7_ofAll_32 : decode cX7_ofAll 32 = .ok (.laload, 1) := by decide +kernel
theorem dX7_ofAll_33 : decode cX7_ofAll 33 = .ok (.lconst 1, 1) := by decide +kernel
theorem dX7_ofAll_34 : decode cX7_ofAll 34 = .ok (.lcmp, 1) := by decide +kernel
theorem dX7_ofAll_35 : decode cX7_ofAll 35 = .ok (.ifCond .ne 9, 3) := by decide +kernel
theorem dX7_ofAll_38 : decode cX7_ofAll 38 = .ok (.iconst 1, 1) := by decide +kernel
theorem dX7_ofAll_39 : decode cX7_ofAll 39 = .ok (.iload_n 3, 1) := by decide +kernel
theorem dX7_ofAll_40 : decode cX7_ofAll 40 = .ok (.ishl, 1) := by decide +kernel
theorem dX7_ofAll_41 : decode cX7_ofAll 41 = .ok (.goto 4, 3) := by decide +kernel
theorem dX7_ofAll_44 : decode cX7_ofAll 44 = .ok (.iconst 0, 1) := by decide +kernel
theorem dX7_ofAll_45 : decode cX7_ofAll 45 = .ok (.ior, 1) := by decide +kernel
theorem dX7_ofAll_46 : decode cX7_ofAll 46 = .ok (.istore_n 2, 1) := by decide +kernel
theorem dX7_ofAll_47 : decode cX7_ofAll 47 = .ok (.iinc 3 1, 3) := by decide +kernel
theorem dX7_ofAll_50 : decode cX7_ofAll 50 = .ok (.goto (-46), 3) := by decide +kernel
theorem dX7_ofAll_53 : decode cX7_ofAll 53 = .ok (.iconst 0, 1) := by decide +kernel
theorem dX7_ofAll_54 : decode cX7_ofAll 54 = .ok (.istore_n 3, 1) := by decide +kernel
theorem dX7_ofAll_55 : decode cX7_ofAll 55 = .ok (.iload_n 3, 1) := by decide +kernel
theorem dX7_ofAll_56 : decode cX7_ofAll 56 = .ok (.aload_n 0, 1) := by decide +kernel
theorem dX7_ofAll_57 : decode cX7_ofAll 57 = .ok (.bipush 7, 2) := by decide +kernel
theorem dX7_ofAll_59 : decode cX7_ofAll 59 = .ok (.invokevirtual 37, 3) := by decide +kernel
theorem dX7_ofAll_62 : decode cX7_ofAll 62 = .ok (.if_icmp .ge 41, 3) := by decide +kernel
theorem dX7_ofAll_65 : decode cX7_ofAll 65 = .ok (.iload_n 1, 1) := by decide +kernel
theorem dX7_ofAll_66 : decode cX7_ofAll 66 = .ok (.iconst 4, 1) := by decide +kernel
theorem dX7_ofAll_67 : decode cX7_ofAll 67 = .ok (.if_icmp .le 36, 3) := by decide +kernel
theorem dX7_ofAll_70 : decode cX7_ofAll 70 = .ok (.iload_n 1, 1) := by decide +kernel
theorem dX7_ofAll_71 : decode cX7_ofAll 71 = .ok (.iconst 5, 1) := by decide +kernel
theorem dX7_ofAll_72 : decode cX7_ofAll 72 = .ok (.if_icmp .ne 17, 3) := by decide +kernel
theorem dX7_ofAll_75 : decode cX7_ofAll 75 = .ok (.iload_n 2, 1) := by decide +kernel
theorem dX7_ofAll_76 : decode cX7_ofAll 76 = .ok (.aload_n 0, 1) := by decide +kernel
theorem dX7_ofAll_77 : decode cX7_ofAll 77 = .ok (.iload_n 3, 1) := by decide +kernel
theorem dX7_ofAll_78 : decode cX7_ofAll 78 = .ok (.bipush 7, 2) := by decide +kernel
theorem dX7_ofAll_80 : decode cX7_ofAll 80 = .ok (.invokevirtual 53, 3) := by decide +kernel
theorem dX7_ofAll_83 : decode cX7_ofAll 83 = .ok (.iload_n 3, 1) := by decide +kernel
theorem dX7_ofAll_84 : decode cX7_ofAll 84 = .ok (.ishl, 1) := by decide +kernel
theorem dX7_ofAll_85 : decode cX7_ofAll 85 = .ok (.ior, 1) := by decide +kernel
theorem dX7_ofAll_86 : decode cX7_ofAll 86 = .ok (.goto 10, 3) := by decide +kernel
theorem dX7_ofAll_89 : decode cX7_ofAll 89 = .ok (.iload_n 2, 1) := by decide +kernel
theorem dX7_ofAll_90 : decode cX7_ofAll 90 = .ok (.aload_n 0, 1) := by decide +kernel
theorem dX7_ofAll_91 : decode cX7_ofAll 91 = .ok (.iload_n 3, 1) := by decide +kernel
theorem dX7_ofAll_92 : decode cX7_ofAll 92 = .ok (.invokevirtual 148, 3) := by decide +kernel
theorem dX7_ofAll_95 : decode cX7_ofAll 95 = .ok (.iadd, 1) := by decide +kernel
theorem dX7_ofAll_96 : decode cX7_ofAll 96 = .ok (.istore_n 2, 1) := by decide +kernel
theorem dX7_ofAll_97 : decode cX7_ofAll 97 = .ok (.iinc 3 1, 3) := by decide +kernel
theorem dX7_ofAll_100 : decode cX7_ofAll 100 = .ok (.goto (-45), 3) := by decide +kernel
theorem dX7_ofAll_103 : decode cX7_ofAll 103 = .ok (.iload_n 2, 1) := by decide +kernel
theorem dX7_ofAll_104 : decode cX7_ofAll 104 = .ok (.ireturn, 1) := by decide +kernel
set_option maxRecDepth 20000 in
theorem ggX7_count_X7_num : GoodIn wsX7_count wsX7_num := goodIn_r _ [8, 1, 33, 34, 35, 36, 37, 38, 39] (by decide +kernel) (by decide +kernel)
set_option maxRecDepth 20000 in
theorem gX7_count_X7_num : GoodIn wsX7_count (wsV RX7 37 RX7 yX7_num wsX7_num) := goodIn_app (goodIn_of _ (by decide +kernel)) ggX7_count_X7_num
set_option maxRecDepth 20000 in
theorem ggX7_count_X7_isNight : GoodIn wsX7_count wsX7_isNight := goodIn_r _ [11, 12, 13, 14] (by decide +kernel) (by decide +kernel)
set_option maxRecDepth 20000 in
theorem gX7_count_X7_isNight : GoodIn wsX7_count (va_wsS RX7 77 yX7_isNight wsX7_isNight) := goodIn_app (goodIn_of _ (by decide +kernel)) ggX7_count_X7_isNight
set_option maxRecDepth 20000 in
theorem ggX7_count_X7_ofAll : GoodIn wsX7_count wsX7_ofAll := goodIn_r _ [18, 1, 4, 5, 6, 7, 8, 19, 20, 21, 22, 23, 24, 25, 26, 27, 28, 29, 33, 34, 35, 36, 37, 38, 39] (by decide +kernel) (by decide +kernel)
set_option maxRecDepth 20000 in
theorem gX7_count_X7_ofAll : GoodIn wsX7_count (wsV RX7 153 RX7 yX7_ofAll wsX7_ofAll) := goodIn_app (goodIn_of _ (by decide +kernel)) ggX7_count_X7_ofAll
set_option maxRecDepth 20000 in
theorem ggX7_count_X7_in : GoodIn wsX7_count wsX7_in := goodIn_r _ [32] (by decide +kernel) (by decide +kernel)
set_option maxRecDepth 20000 in
theorem gX7_count_X7_in : GoodIn wsX7_count (va_wsS RX7 41 yX7_in wsX7_in) := goodIn_app (goodIn_of _ (by decide +kernel)) ggX7_count_X7_in
theorem dX7_count_0 : decode cX7_count 0 = .ok (.iload_n 1, 1) := by decide +kernel
theorem dX7_count_1 : decode cX7_count 1 = .ok (.tableswitch 148 0 16 #[83, 90, 109, 109, 120, 120, 120, 126, 126, 148, 148, 148, 148, 148, 148, 138, 143], 83) := by decide +kernel
theorem dX7_count_84 : decode cX7_count 84 = .ok (.aload_n 0, 1) := by decide +kernel
theorem dX7_count_85 : decode cX7_count 85 = .ok (.bipush 6, 2) := by decide +kernel
theorem dX7_count_87 : decode cX7_count 87 = .ok (.invokevirtual 37, 3) := by decide +kernel
theorem dX7_count_90 : decode cX7_count 90 = .ok (.ireturn, 1) := by decide +kernel
theorem dX7_count_91 : decode cX7_count 91 = .ok (.aload_n 0, 1) := by decide +kernel
theorem dX7_count_92 : decode cX7_count 92 = .ok (.getfield 7, 3) := by decide +kernel
theorem dX7_count_95 : decode cX7_count 95 = .ok (.bipush 6, 2) := by decide +kernel
theorem dX7_count_97 : decode cX7_count 97 = .ok (.laload, 1) := by decide +kernel
theorem dX7_count_98 : decode cX7_count 98 = .ok (.invokestatic 77, 3) := by decide +kernel
theorem dX7_count_101 : decode cX7_count 101 = .ok (.ifCond .eq 7, 3) := by decide +kernel
theorem dX7_count_104 : decode cX7_count 104 = .ok (.iconst 1, 1) := by decide +kernel
theorem dX7_count_105 : decode cX7_count 105 = .ok (.goto 4, 3) := by decide +kernel
theorem dX7_count_108 : decode cX7_count 108 = .ok (.iconst 0, 1) := by decide +kernel
theorem dX7_count_109 : decode cX7_count 109 = .ok (.ireturn, 1) := by decide +kernel
theorem dX7_count_110 : decode cX7_count 110 = .ok (.aload_n 0, 1) := by decide +kernel
theorem dX7_count_111 : decode cX7_count 111 = .ok (.bipush 7, 2) := by decide +kernel
theorem dX7_count_113 : decode cX7_count 113 = .ok (.iload_n 1, 1) := by decide +kernel
theorem dX7_count_114 : decode cX7_count 114 = .ok (.iadd, 1) := by decide +kernel
theorem dX7_count_115 : decode cX7_count 115 = .ok (.iconst 2, 1) := by decide +kernel
theorem dX7_count_116 : decode cX7_count 116 = .ok (.isub, 1) := by decide +kernel
theorem dX7_count_117 : decode cX7_count 117 = .ok (.invokevirtual 37, 3) := by decide +kernel
theorem dX7_count_120 : decode cX7_count 120 = .ok (.ireturn, 1) := by decide +kernel
theorem dX7_count_121 : decode cX7_count 121 = .ok (.aload_n 0, 1) := by decide +kernel
theorem dX7_count_122 : decode cX7_count 122 = .ok (.iload_n 1, 1) := by decide +kernel
theorem dX7_count_123 : decode cX7_count 123 = .ok (.invokevirtual 153, 3) := by decide +kernel
theorem dX7_count_126 : decode cX7_count 126 = .ok (.ireturn, 1) := by decide +kernel
theorem dX7_count_127 : decode cX7_count 127 = .ok (.aload_n 0, 1) := by decide +kernel
theorem dX7_count_128 : decode cX7_count 128 = .ok (.bipush 9, 2) := by decide +kernel
theorem dX7_count_130 : decode cX7_count 130 = .ok (.iload_n 1, 1) := by decide +kernel
theorem dX7_count_131 : decode cX7_count 131 = .ok (.iadd, 1) := by decide +kernel
theorem dX7_count_132 : decode cX7_count 132 = .ok (.bipush 7, 2) := by decide +kernel
theorem dX7_count_134 : decode cX7_count 134 = .ok (.isub, 1) := by decide +kernel
theorem dX7_count_135 : decode cX7_count 135 = .ok (.invokevirtual 37, 3) := by decide +kernel
theorem dX7_count_138 : decode cX7_count 138 = .ok (.ireturn, 1) := by decide +kernel
theorem dX7_count_139 : decode cX7_count 139 = .ok (.aload_n 0, 1) := by decide +kernel
theorem dX7_count_140 : decode cX7_count 140 = .ok (.getfield 135, 3) := by decide +kernel
theorem dX7_count_143 : decode cX7_count 143 = .ok (.ireturn, 1) := by decide +kernel
theorem dX7_count_144 : decode cX7_count 144 = .ok (.aload_n 0, 1) := by decide +kernel
theorem dX7_count_145 : decode cX7_count 145 = .ok (.getfield 49, 3) := by decide +kernel
theorem dX7_count_148 : decode cX7_count 148 = .ok (.ireturn, 1) := by decide +kernel
theorem dX7_count_149 : decode cX7_count 149 = .ok (.iload_n 1, 1) := by decide +kernel
theorem dX7_count_150 : decode cX7_count 150 = .ok (.bipush 9, 2) := by decide +kernel
theorem dX7_count_152 : decode cX7_count 152 = .ok (.bipush 14, 2) := by decide +kernel
theorem dX7_count_154 : decode cX7_count 154 = .ok (.invokestatic 41, 3) := by decide +kernel
theorem dX7_count_157 : decode cX7_count 157 = .ok (.ifCond .eq 14, 3) := by decide +kernel
theorem dX7_count_160 : decode cX7_count 160 = .ok (.aload_n 0, 1) := by decide +kernel
theorem dX7_count_161 : decode cX7_count 161 = .ok (.iload_n 1, 1) := by decide +kernel
theorem dX7_count_162 : decode cX7_count 162 = .ok (.bipush 9, 2) := by decide +kernel
theorem dX7_count_164 : decode cX7_count 164 = .ok (.isub, 1) := by decide +kernel
theorem dX7_count_165 : decode cX7_count 165 = .ok (.invokevirtual 37, 3) := by decide +kernel
theorem dX7_count_168 : decode cX7_count 168 = .ok (.goto 5, 3) := by decide +kernel
theorem dX7_count_171 : decode cX7_count 171 = .ok (.bipush (-2), 2) := by decide +kernel
theorem dX7_count_173 : decode cX7_count 173 = .ok (.ireturn, 1) := by decide +kernel
set_option maxRecDepth 20000 in
theorem ggX7_bill_X7_isMeter : GoodIn wsX7_bill wsX7_isMeter := goodIn_r _ [5, 6, 7, 8, 4, 9, 10, 11, 12, 13, 21, 22, 23, 24, 25, 26, 27] (by decide +kernel) (by decide +kernel)
set_option maxRecDepth 20000 in
theorem gX7_bill_X7_isMeter : GoodIn wsX7_bill (wsV RX7 95 RX7 yX7_isMeter wsX7_isMeter) := goodIn_app (goodIn_of _ (by decide +kernel)) ggX7_bill_X7_isMeter
set_option maxRecDepth 20000 in
theorem ggX7_bill_X7_billOf : GoodIn wsX7_bill wsX7_billOf := goodIn_r _ [17, 10, 18, 19, 4, 20, 21, 22, 23, 24, 25, 26, 27] (by decide +kernel) (by decide +kernel)
set_option maxRecDepth 20000 in
theorem gX7_bill_X7_billOf : GoodIn wsX7_bill (wsV RX7 122 RX7 yX7_billOf wsX7_billOf) := goodIn_app (goodIn_of _ (by decide +kernel)) ggX7_bill_X7_billOf
theorem dX7_bill_0 : decode cX7_bill 0 = .ok (.aload_n 0, 1) := by decide +kernel
theorem dX7_bill_1 : decode cX7_bill 1 = .ok (.iload_n 1, 1) := by decide +kernel
theorem dX7_bill_2 : decode cX7_bill 2 = .ok (.invokevirtual 95, 3) := by decide +kernel
theorem dX7_bill_5 : decode cX7_bill 5 = .ok (.ifCond .eq 11, 3) := by decide +kernel
theorem dX7_bill_8 : decode cX7_bill 8 = .ok (.aload_n 0, 1) := by decide +kernel
theorem dX7_bill_9 : decode cX7_bill 9 = .ok (.iload_n 1, 1) := by decide +kernel
theorem dX7_bill_10 : decode cX7_bill 10 = .ok (.invokevirtual 122, 3) := by decide +kernel
theorem dX7_bill_13 : decode cX7_bill 13 = .ok (.goto 4, 3) := by decide +kernel
theorem dX7_bill_16 : decode cX7_bill 16 = .ok (.iconst (-1), 1) := by decide +kernel
theorem dX7_bill_17 : decode cX7_bill 17 = .ok (.ireturn, 1) := by decide +kernel
set_option maxRecDepth 20000 in
theorem ggX7_turnsIn_X7_isMeter : GoodIn wsX7_turnsIn wsX7_isMeter := goodIn_r _ [6, 7, 8, 9, 5, 10, 1, 11, 12, 13, 51, 52, 53, 54, 55, 56, 57] (by decide +kernel) (by decide +kernel)
set_option maxRecDepth 20000 in
theorem gX7_turnsIn_X7_isMeter : GoodIn wsX7_turnsIn (wsV RX7 95 RX7 yX7_isMeter wsX7_isMeter) := goodIn_app (goodIn_of _ (by decide +kernel)) ggX7_turnsIn_X7_isMeter
set_option maxRecDepth 20000 in
theorem ggX7_turnsIn_X7_copies : GoodIn wsX7_turnsIn wsX7_copies := goodIn_r _ [17, 1, 51, 52, 53, 54, 55, 56, 57] (by decide +kernel) (by decide +kernel)
set_option maxRecDepth 20000 in
theorem gX7_turnsIn_X7_copies : GoodIn wsX7_turnsIn (wsV RX7 156 RX7 yX7_copies wsX7_copies) := goodIn_app (goodIn_of _ (by decide +kernel)) ggX7_turnsIn_X7_copies
set_option maxRecDepth 20000 in
theorem ggX7_turnsIn_X7_passesOne : GoodIn wsX7_turnsIn wsX7_passesOne := goodIn_r _ [21, 1, 22, 23, 24, 25, 5, 26, 27, 28, 29, 30, 7, 8, 9, 10, 31, 32, 33, 34, 35, 36, 37, 38, 39, 40, 41, 42, 43, 44, 45, 46, 47, 48, 49, 50, 51, 52, 53, 54, 55, 56, 57] (by decide +kernel) (by decide +kernel)
set_option maxRecDepth 20000 in
theorem gX7_turnsIn_X7_passesOne : GoodIn wsX7_turnsIn (wsV RX7 83 RX7 yX7_passesOne wsX7_passesOne) := goodIn_app (goodIn_of _ (by decide +kernel)) ggX7_turnsIn_X7_passesOne
theorem dX7_turnsIn_0 : decode cX7_turnsIn 0 = .ok (.aload_n 0, 1) := by decide +kernel
theorem dX7_turnsIn_1 : decode cX7_turnsIn 1 = .ok (.iload_n 1, 1) := by decide +kernel
theorem dX7_turnsIn_2 : decode cX7_turnsIn 2 = .ok (.invokevirtual 95, 3) := by decide +kernel
theorem dX7_turnsIn_5 : decode cX7_turnsIn 5 = .ok (.ifCond .ne 5, 3) := by decide +kernel
theorem dX7_turnsIn_8 : decode cX7_turnsIn 8 = .ok (.iconst (-1), 1) := by decide +kernel
theorem dX7_turnsIn_9 : decode cX7_turnsIn 9 = .ok (.ireturn, 1) := by decide +kernel
theorem dX7_turnsIn_10 : decode cX7_turnsIn 10 = .ok (.aload_n 0, 1) := by decide +kernel
theorem dX7_turnsIn_11 : decode cX7_turnsIn 11 = .ok (.invokevirtual 156, 3) := by decide +kernel
theorem dX7_turnsIn_14 : decode cX7_turnsIn 14 = .ok (.iconst 1, 1) := by decide +kernel
theorem dX7_turnsIn_15 : decode cX7_turnsIn 15 = .ok (.istore_n 2, 1) := by decide +kernel
theorem dX7_turnsIn_16 : decode cX7_turnsIn 16 = .ok (.iload_n 2, 1) := by decide +kernel
theorem dX7_turnsIn_17 : decode cX7_turnsIn 17 = .ok (.sipush 3000, 3) := by decide +kernel
theorem dX7_turnsIn_20 : decode cX7_turnsIn 20 = .ok (.if_icmp .gt 36, 3) := by decide +kernel
theorem dX7_turnsIn_23 : decode cX7_turnsIn 23 = .ok (.aload_n 0, 1) := by decide +kernel
theorem dX7_turnsIn_24 : decode cX7_turnsIn 24 = .ok (.sipush 138, 3) := by decide +kernel
theorem dX7_turnsIn_27 : decode cX7_turnsIn 27 = .ok (.iload_n 1, 1) := by decide +kernel
theorem dX7_turnsIn_28 : decode cX7_turnsIn 28 = .ok (.invokevirtual 83, 3) := by decide +kernel
theorem dX7_turnsIn_31 : decode cX7_turnsIn 31 = .ok (.istore_n 3, 1) := by decide +kernel
theorem dX7_turnsIn_32 : decode cX7_turnsIn 32 = .ok (.aload_n 0, 1) := by decide +kernel
theorem dX7_turnsIn_33 : decode cX7_turnsIn 33 = .ok (.getfield 7, 3) := by decide +kernel
theorem dX7_turnsIn_36 : decode cX7_turnsIn 36 = .ok (.sipush 144, 3) := by decide +kernel
theorem dX7_turnsIn_39 : decode cX7_turnsIn 39 = .ok (.dup2, 1) := by decide +kernel
theorem dX7_turnsIn_40 : decode cX7_turnsIn 40 = .ok (.laload, 1) := by decide +kernel
theorem dX7_turnsIn_41 : decode cX7_turnsIn 41 = .ok (.lconst 1, 1) := by decide +kernel
theorem dX7_turnsIn_42 : decode cX7_turnsIn 42 = .ok (.ladd, 1) := by decide +kernel
theorem dX7_turnsIn_43 : decode cX7_turnsIn 43 = .ok (.lastore, 1) := by decide +kernel
theorem dX7_turnsIn_44 : decode cX7_turnsIn 44 = .ok (.iload_n 3, 1) := by decide +kernel
theorem dX7_turnsIn_45 : decode cX7_turnsIn 45 = .ok (.ifCond .le 5, 3) := by decide +kernel
theorem dX7_turnsIn_48 : decode cX7_turnsIn 48 = .ok (.iload_n 2, 1) := by decide +kernel
theorem dX7_turnsIn_49 : decode cX7_turnsIn 49 = .ok (.ireturn, 1) := by decide +kernel
theorem dX7_turnsIn_50 : decode cX7_turnsIn 50 = .ok (.iinc 2 1, 3) := by decide +kernel
theorem dX7_turnsIn_53 : decode cX7_turnsIn 53 = .ok (.goto (-37), 3) := by decide +kernel
theorem dX7_turnsIn_56 : decode cX7_turnsIn 56 = .ok (.bipush (-6), 2) := by decide +kernel
theorem dX7_turnsIn_58 : decode cX7_turnsIn 58 = .ok (.ireturn, 1) := by decide +kernel
set_option maxRecDepth 20000 in
theorem ggX7_wouldTurn_X7_isMeter : GoodIn wsX7_wouldTurn wsX7_isMeter := goodIn_r _ [6, 7, 8, 9, 5, 10, 1, 11, 12, 13, 51, 52, 53, 54, 55, 56, 57] (by decide +kernel) (by decide +kernel)
set_option maxRecDepth 20000 in
theorem gX7_wouldTurn_X7_isMeter : GoodIn wsX7_wouldTurn (wsV RX7 95 RX7 yX7_isMeter wsX7_isMeter) := goodIn_app (goodIn_of _ (by decide +kernel)) ggX7_wouldTurn_X7_isMeter
set_option maxRecDepth 20000 in
theorem ggX7_wouldTurn_X7_in : GoodIn wsX7_wouldTurn wsX7_in := goodIn_r _ [13] (by decide +kernel) (by decide +kernel)
set_option maxRecDepth 20000 in
theorem gX7_wouldTurn_X7_in : GoodIn wsX7_wouldTurn (va_wsS RX7 41 yX7_in wsX7_in) := goodIn_app (goodIn_of _ (by decide +kernel)) ggX7_wouldTurn_X7_in
set_option maxRecDepth 20000 in
theorem ggX7_wouldTurn_X7_copies : GoodIn wsX7_wouldTurn wsX7_copies := goodIn_r _ [17, 1, 51, 52, 53, 54, 55, 56, 57] (by decide +kernel) (by decide +kernel)
set_option maxRecDepth 20000 in
theorem gX7_wouldTurn_X7_copies : GoodIn wsX7_wouldTurn (wsV RX7 156 RX7 yX7_copies wsX7_copies) := goodIn_app (goodIn_of _ (by decide +kernel)) ggX7_wouldTurn_X7_copies
set_option maxRecDepth 20000 in
theorem ggX7_wouldTurn_X7_at : GoodIn wsX7_wouldTurn wsX7_at := goodIn_r _ [20] (by decide +kernel) (by decide +kernel)
set_option maxRecDepth 20000 in
theorem gX7_wouldTurn_X7_at : GoodIn wsX7_wouldTurn (va_wsS RX7 45 yX7_at wsX7_at) := goodIn_app (goodIn_of _ (by decide +kernel)) ggX7_wouldTurn_X7_at
set_option maxRecDepth 20000 in
theorem ggX7_wouldTurn_X7_passesOne : GoodIn wsX7_wouldTurn wsX7_passesOne := goodIn_r _ [24, 1, 25, 26, 18, 19, 5, 20, 27, 28, 29, 30, 7, 8, 9, 10, 31, 32, 33, 34, 35, 36, 37, 38, 39, 40, 41, 42, 43, 44, 45, 46, 47, 48, 49, 50, 51, 52, 53, 54, 55, 56, 57] (by decide +kernel) (by decide +kernel)
set_option maxRecDepth 20000 in
theorem gX7_wouldTurn_X7_passesOne : GoodIn wsX7_wouldTurn (wsV RX7 83 RX7 yX7_passesOne wsX7_passesOne) := goodIn_app (goodIn_of _ (by decide +kernel)) ggX7_wouldTurn_X7_passesOne
theorem dX7_wouldTurn_0 : decode cX7_wouldTurn 0 = .ok (.aload_n 0, 1) := by decide +kernel
theorem dX7_wouldTurn_1 : decode cX7_wouldTurn 1 = .ok (.iload_n 1, 1) := by decide +kernel
theorem dX7_wouldTurn_2 : decode cX7_wouldTurn 2 = .ok (.invokevirtual 95, 3) := by decide +kernel
theorem dX7_wouldTurn_5 : decode cX7_wouldTurn 5 = .ok (.ifCond .ne 5, 3) := by decide +kernel
theorem dX7_wouldTurn_8 : decode cX7_wouldTurn 8 = .ok (.iconst (-1), 1) := by decide +kernel
theorem dX7_wouldTurn_9 : decode cX7_wouldTurn 9 = .ok (.ireturn, 1) := by decide +kernel
theorem dX7_wouldTurn_10 : decode cX7_wouldTurn 10 = .ok (.iload_n 2, 1) := by decide +kernel
theorem dX7_wouldTurn_11 : decode cX7_wouldTurn 11 = .ok (.iconst 1, 1) := by decide +kernel
theorem dX7_wouldTurn_12 : decode cX7_wouldTurn 12 = .ok (.sipush 1440, 3) := by decide +kernel
theorem dX7_wouldTurn_15 : decode cX7_wouldTurn 15 = .ok (.invokestatic 41, 3) := by decide +kernel
theorem dX7_wouldTurn_18 : decode cX7_wouldTurn 18 = .ok (.ifCond .eq 12, 3) := by decide +kernel
theorem dX7_wouldTurn_21 : decode cX7_wouldTurn 21 = .ok (.iload_n 3, 1) := by decide +kernel
theorem dX7_wouldTurn_22 : decode cX7_wouldTurn 22 = .ok (.iconst 0, 1) := by decide +kernel
theorem dX7_wouldTurn_23 : decode cX7_wouldTurn 23 = .ok (.iconst 1, 1) := by decide +kernel
theorem dX7_wouldTurn_24 : decode cX7_wouldTurn 24 = .ok (.invokestatic 41, 3) := by decide +kernel
theorem dX7_wouldTurn_27 : decode cX7_wouldTurn 27 = .ok (.ifCond .ne 6, 3) := by decide +kernel
theorem dX7_wouldTurn_30 : decode cX7_wouldTurn 30 = .ok (.bipush (-2), 2) := by decide +kernel
theorem dX7_wouldTurn_32 : decode cX7_wouldTurn 32 = .ok (.ireturn, 1) := by decide +kernel
theorem dX7_wouldTurn_33 : decode cX7_wouldTurn 33 = .ok (.aload_n 0, 1) := by decide +kernel
theorem dX7_wouldTurn_34 : decode cX7_wouldTurn 34 = .ok (.invokevirtual 156, 3) := by decide +kernel
theorem dX7_wouldTurn_37 : decode cX7_wouldTurn 37 = .ok (.iconst 0, 1) := by decide +kernel
theorem dX7_wouldTurn_38 : decode cX7_wouldTurn 38 = .ok (.iload_n 1, 1) := by decide +kernel
theorem dX7_wouldTurn_39 : decode cX7_wouldTurn 39 = .ok (.invokestatic 45, 3) := by decide +kernel
theorem dX7_wouldTurn_42 : decode cX7_wouldTurn 42 = .ok (.iload_n 3, 1) := by decide +kernel
theorem dX7_wouldTurn_43 : decode cX7_wouldTurn 43 = .ok (.iconst 1, 1) := by decide +kernel
theorem dX7_wouldTurn_44 : decode cX7_wouldTurn 44 = .ok (.if_icmp .ne 7, 3) := by decide +kernel
theorem dX7_wouldTurn_47 : decode cX7_wouldTurn 47 = .ok (.iconst 4, 1) := by decide +kernel
theorem dX7_wouldTurn_48 : decode cX7_wouldTurn 48 = .ok (.goto 4, 3) := by decide +kernel
theorem dX7_wouldTurn_51 : decode cX7_wouldTurn 51 = .ok (.iconst 3, 1) := by decide +kernel
theorem dX7_wouldTurn_52 : decode cX7_wouldTurn 52 = .ok (.iadd, 1) := by decide +kernel
theorem dX7_wouldTurn_53 : decode cX7_wouldTurn 53 = .ok (.istore 4, 2) := by decide +kernel
theorem dX7_wouldTurn_55 : decode cX7_wouldTurn 55 = .ok (.iconst 0, 1) := by decide +kernel
theorem dX7_wouldTurn_56 : decode cX7_wouldTurn 56 = .ok (.istore 5, 2) := by decide +kernel
theorem dX7_wouldTurn_58 : decode cX7_wouldTurn 58 = .ok (.iload 5, 2) := by decide +kernel
theorem dX7_wouldTurn_60 : decode cX7_wouldTurn 60 = .ok (.iload_n 2, 1) := by decide +kernel
theorem dX7_wouldTurn_61 : decode cX7_wouldTurn 61 = .ok (.if_icmp .ge 31, 3) := by decide +kernel
theorem dX7_wouldTurn_64 : decode cX7_wouldTurn 64 = .ok (.aload_n 0, 1) := by decide +kernel
theorem dX7_wouldTurn_65 : decode cX7_wouldTurn 65 = .ok (.sipush 138, 3) := by decide +kernel
theorem dX7_wouldTurn_68 : decode cX7_wouldTurn 68 = .ok (.iload_n 1, 1) := by decide +kernel
theorem dX7_wouldTurn_69 : decode cX7_wouldTurn 69 = .ok (.invokevirtual 83, 3) := by decide +kernel
theorem dX7_wouldTurn_72 : decode cX7_wouldTurn 72 = .ok (.istore 6, 2) := by decide +kernel
theorem dX7_wouldTurn_74 : decode cX7_wouldTurn 74 = .ok (.aload_n 0, 1) := by decide +kernel
theorem dX7_wouldTurn_75 : decode cX7_wouldTurn 75 = .ok (.getfield 7, 3) := by decide +kernel
theorem dX7_wouldTurn_78 : decode cX7_wouldTurn 78 = .ok (.sipush 144, 3) := by decide +kernel
theorem dX7_wouldTurn_81 : decode cX7_wouldTurn 81 = .ok (.dup2, 1) := by decide +kernel
theorem dX7_wouldTurn_82 : decode cX7_wouldTurn 82 = .ok (.laload, 1) := by decide +kernel
theorem dX7_wouldTurn_83 : decode cX7_wouldTurn 83 = .ok (.lconst 1, 1) := by decide +kernel
theorem dX7_wouldTurn_84 : decode cX7_wouldTurn 84 = .ok (.ladd, 1) := by decide +kernel
theorem dX7_wouldTurn_85 : decode cX7_wouldTurn 85 = .ok (.lastore, 1) := by decide +kernel
theorem dX7_wouldTurn_86 : decode cX7_wouldTurn 86 = .ok (.iinc 5 1, 3) := by decide +kernel
theorem dX7_wouldTurn_89 : decode cX7_wouldTurn 89 = .ok (.goto (-31), 3) := by decide +kernel
theorem dX7_wouldTurn_92 : decode cX7_wouldTurn 92 = .ok (.aload_n 0, 1) := by decide +kernel
theorem dX7_wouldTurn_93 : decode cX7_wouldTurn 93 = .ok (.getfield 7, 3) := by decide +kernel
theorem dX7_wouldTurn_96 : decode cX7_wouldTurn 96 = .ok (.sipush 138, 3) := by decide +kernel
theorem dX7_wouldTurn_99 : decode cX7_wouldTurn 99 = .ok (.iload 4, 2) := by decide +kernel
theorem dX7_wouldTurn_101 : decode cX7_wouldTurn 101 = .ok (.iadd, 1) := by decide +kernel
theorem dX7_wouldTurn_102 : decode cX7_wouldTurn 102 = .ok (.laload, 1) := by decide +kernel
theorem dX7_wouldTurn_103 : decode cX7_wouldTurn 103 = .ok (.aload_n 0, 1) := by decide +kernel
theorem dX7_wouldTurn_104 : decode cX7_wouldTurn 104 = .ok (.getfield 7, 3) := by decide +kernel
theorem dX7_wouldTurn_107 : decode cX7_wouldTurn 107 = .ok (.iload 4, 2) := by decide +kernel
theorem dX7_wouldTurn_109 : decode cX7_wouldTurn 109 = .ok (.laload, 1) := by decide +kernel
theorem dX7_wouldTurn_110 : decode cX7_wouldTurn 110 = .ok (.lsub, 1) := by decide +kernel
theorem dX7_wouldTurn_111 : decode cX7_wouldTurn 111 = .ok (.l2i, 1) := by decide +kernel
theorem dX7_wouldTurn_112 : decode cX7_wouldTurn 112 = .ok (.ireturn, 1) := by decide +kernel
set_option maxRecDepth 20000 in
theorem ggX7_worst_X7_num : GoodIn wsX7_worst wsX7_num := goodIn_r _ [5, 6, 32, 33, 34, 35, 36, 37, 38] (by decide +kernel) (by decide +kernel)
set_option maxRecDepth 20000 in
theorem gX7_worst_X7_num : GoodIn wsX7_worst (wsV RX7 37 RX7 yX7_num wsX7_num) := goodIn_app (goodIn_of _ (by decide +kernel)) ggX7_worst_X7_num
set_option maxRecDepth 20000 in
theorem ggX7_worst_X7_misses : GoodIn wsX7_worst wsX7_misses := goodIn_r _ [10, 11, 6, 12, 13, 14, 15, 16, 4, 17, 1, 2, 3, 5, 18, 19, 20, 21, 22, 23, 24, 25, 26, 27, 28, 29, 30, 31, 32, 33, 34, 35, 36, 37, 38] (by decide +kernel) (by decide +kernel)
set_option maxRecDepth 20000 in
theorem gX7_worst_X7_misses : GoodIn wsX7_worst (wsV RX7 159 RX7 yX7_misses wsX7_misses) := goodIn_app (goodIn_of _ (by decide +kernel)) ggX7_worst_X7_misses
theorem dX7_worst_0 : decode cX7_worst 0 = .ok (.bipush (-6), 2) := by decide +kernel
theorem dX7_worst_2 : decode cX7_worst 2 = .ok (.istore_n 1, 1) := by decide +kernel
theorem dX7_worst_3 : decode cX7_worst 3 = .ok (.iconst 0, 1) := by decide +kernel
theorem dX7_worst_4 : decode cX7_worst 4 = .ok (.istore_n 2, 1) := by decide +kernel
theorem dX7_worst_5 : decode cX7_worst 5 = .ok (.iload_n 2, 1) := by decide +kernel
theorem dX7_worst_6 : decode cX7_worst 6 = .ok (.aload_n 0, 1) := by decide +kernel
theorem dX7_worst_7 : decode cX7_worst 7 = .ok (.bipush 7, 2) := by decide +kernel
theorem dX7_worst_9 : decode cX7_worst 9 = .ok (.invokevirtual 37, 3) := by decide +kernel
theorem dX7_worst_12 : decode cX7_worst 12 = .ok (.if_icmp .ge 35, 3) := by decide +kernel
theorem dX7_worst_15 : decode cX7_worst 15 = .ok (.iload_n 1, 1) := by decide +kernel
theorem dX7_worst_16 : decode cX7_worst 16 = .ok (.bipush (-6), 2) := by decide +kernel
theorem dX7_worst_18 : decode cX7_worst 18 = .ok (.if_icmp .eq 17, 3) := by decide +kernel
theorem dX7_worst_21 : decode cX7_worst 21 = .ok (.aload_n 0, 1) := by decide +kernel
theorem dX7_worst_22 : decode cX7_worst 22 = .ok (.iload_n 2, 1) := by decide +kernel
theorem dX7_worst_23 : decode cX7_worst 23 = .ok (.invokevirtual 159, 3) := by decide +kernel
theorem dX7_worst_26 : decode cX7_worst 26 = .ok (.aload_n 0, 1) := by decide +kernel
theorem dX7_worst_27 : decode cX7_worst 27 = .ok (.iload_n 1, 1) := by decide +kernel
theorem dX7_worst_28 : decode cX7_worst 28 = .ok (.invokevirtual 159, 3) := by decide +kernel
theorem dX7_worst_31 : decode cX7_worst 31 = .ok (.lcmp, 1) := by decide +kernel
theorem dX7_worst_32 : decode cX7_worst 32 = .ok (.ifCond .le 7, 3) := by decide +kernel
theorem dX7_worst_35 : decode cX7_worst 35 = .ok (.iload_n 2, 1) := by decide +kernel
theorem dX7_worst_36 : decode cX7_worst 36 = .ok (.goto 4, 3) := by decide +kernel
theorem dX7_worst_39 : decode cX7_worst 39 = .ok (.iload_n 1, 1) := by decide +kernel
theorem dX7_worst_40 : decode cX7_worst 40 = .ok (.istore_n 1, 1) := by decide +kernel
theorem dX7_worst_41 : decode cX7_worst 41 = .ok (.iinc 2 1, 3) := by decide +kernel
theorem dX7_worst_44 : decode cX7_worst 44 = .ok (.goto (-39), 3) := by decide +kernel
theorem dX7_worst_47 : decode cX7_worst 47 = .ok (.iload_n 1, 1) := by decide +kernel
theorem dX7_worst_48 : decode cX7_worst 48 = .ok (.ireturn, 1) := by decide +kernel
set_option maxRecDepth 20000 in
theorem ggX7_lags_X7_isMeter : GoodIn wsX7_lags wsX7_isMeter := goodIn_r _ [6, 7, 8, 9, 5, 10, 11, 12, 13, 14, 26, 27, 28, 29, 30, 31, 32] (by decide +kernel) (by decide +kernel)
set_option maxRecDepth 20000 in
theorem gX7_lags_X7_isMeter : GoodIn wsX7_lags (wsV RX7 95 RX7 yX7_isMeter wsX7_isMeter) := goodIn_app (goodIn_of _ (by decide +kernel)) ggX7_lags_X7_isMeter
set_option maxRecDepth 20000 in
theorem ggX7_lags_X7_turnsOf : GoodIn wsX7_lags wsX7_turnsOf := goodIn_r _ [18, 19, 20, 21, 5, 22, 11, 23, 24, 25, 26, 27, 28, 29, 30, 31, 32] (by decide +kernel) (by decide +kernel)
set_option maxRecDepth 20000 in
theorem gX7_lags_X7_turnsOf : GoodIn wsX7_lags (wsV RX7 148 RX7 yX7_turnsOf wsX7_turnsOf) := goodIn_app (goodIn_of _ (by decide +kernel)) ggX7_lags_X7_turnsOf
set_option maxRecDepth 20000 in
theorem ggX7_lags_X7_num : GoodIn wsX7_lags wsX7_num := goodIn_r _ [10, 11, 26, 27, 28, 29, 30, 31, 32] (by decide +kernel) (by decide +kernel)
set_option maxRecDepth 20000 in
theorem gX7_lags_X7_num : GoodIn wsX7_lags (wsV RX7 37 RX7 yX7_num wsX7_num) := goodIn_app (goodIn_of _ (by decide +kernel)) ggX7_lags_X7_num
set_option maxRecDepth 20000 in
theorem ggX7_lags_X7_its : GoodIn wsX7_lags wsX7_its := goodIn_r _ [22, 11, 23, 24, 5, 25, 26, 27, 28, 29, 30, 31, 32] (by decide +kernel) (by decide +kernel)
set_option maxRecDepth 20000 in
theorem gX7_lags_X7_its : GoodIn wsX7_lags (wsV RX7 53 RX7 yX7_its wsX7_its) := goodIn_app (goodIn_of _ (by decide +kernel)) ggX7_lags_X7_its
theorem dX7_lags_0 : decode cX7_lags 0 = .ok (.aload_n 0, 1) := by decide +kernel
theorem dX7_lags_1 : decode cX7_lags 1 = .ok (.iload_n 1, 1) := by decide +kernel
theorem dX7_lags_2 : decode cX7_lags 2 = .ok (.invokevirtual 95, 3) := by decide +kernel
theorem dX7_lags_5 : decode cX7_lags 5 = .ok (.ifCond .ne 5, 3) := by decide +kernel
theorem dX7_lags_8 : decode cX7_lags 8 = .ok (.iconst (-1), 1) := by decide +kernel
theorem dX7_lags_9 : decode cX7_lags 9 = .ok (.ireturn, 1) := by decide +kernel
theorem dX7_lags_10 : decode cX7_lags 10 = .ok (.ldc 163, 2) := by decide +kernel
theorem dX7_lags_12 : decode cX7_lags 12 = .ok (.aload_n 0, 1) := by decide +kernel
theorem dX7_lags_13 : decode cX7_lags 13 = .ok (.iload_n 1, 1) := by decide +kernel
theorem dX7_lags_14 : decode cX7_lags 14 = .ok (.invokevirtual 148, 3) := by decide +kernel
theorem dX7_lags_17 : decode cX7_lags 17 = .ok (.isub, 1) := by decide +kernel
theorem dX7_lags_18 : decode cX7_lags 18 = .ok (.istore_n 2, 1) := by decide +kernel
theorem dX7_lags_19 : decode cX7_lags 19 = .ok (.iconst 1, 1) := by decide +kernel
theorem dX7_lags_20 : decode cX7_lags 20 = .ok (.istore_n 3, 1) := by decide +kernel
theorem dX7_lags_21 : decode cX7_lags 21 = .ok (.iload_n 3, 1) := by decide +kernel
theorem dX7_lags_22 : decode cX7_lags 22 = .ok (.aload_n 0, 1) := by decide +kernel
theorem dX7_lags_23 : decode cX7_lags 23 = .ok (.bipush 7, 2) := by decide +kernel
theorem dX7_lags_25 : decode cX7_lags 25 = .ok (.invokevirtual 37, 3) := by decide +kernel
theorem dX7_lags_28 : decode cX7_lags 28 = .ok (.if_icmp .ge 31, 3) := by decide +kernel
theorem dX7_lags_31 : decode cX7_lags 31 = .ok (.iload_n 2, 1) := by decide +kernel
theorem dX7_lags_32 : decode cX7_lags 32 = .ok (.aload_n 0, 1) := by decide +kernel
theorem dX7_lags_33 : decode cX7_lags 33 = .ok (.iload_n 3, 1) := by decide +kernel
theorem dX7_lags_34 : decode cX7_lags 34 = .ok (.iconst 0, 1) := by decide +kernel
theorem dX7_lags_35 : decode cX7_lags 35 = .ok (.invokevirtual 53, 3) := by decide +kernel
theorem dX7_lags_38 : decode cX7_lags 38 = .ok (.iload_n 1, 1) := by decide +kernel
theorem dX7_lags_39 : decode cX7_lags 39 = .ok (.if_icmp .ne 11, 3) := by decide +kernel
theorem dX7_lags_42 : decode cX7_lags 42 = .ok (.aload_n 0, 1) := by decide +kernel
theorem dX7_lags_43 : decode cX7_lags 43 = .ok (.iload_n 3, 1) := by decide +kernel
theorem dX7_lags_44 : decode cX7_lags 44 = .ok (.invokevirtual 148, 3) := by decide +kernel
theorem dX7_lags_47 : decode cX7_lags 47 = .ok (.goto 4, 3) := by decide +kernel
theorem dX7_lags_50 : decode cX7_lags 50 = .ok (.iconst 0, 1) := by decide +kernel
theorem dX7_lags_51 : decode cX7_lags 51 = .ok (.iadd, 1) := by decide +kernel
theorem dX7_lags_52 : decode cX7_lags 52 = .ok (.istore_n 2, 1) := by decide +kernel
theorem dX7_lags_53 : decode cX7_lags 53 = .ok (.iinc 3 1, 3) := by decide +kernel
theorem dX7_lags_56 : decode cX7_lags 56 = .ok (.goto (-35), 3) := by decide +kernel
theorem dX7_lags_59 : decode cX7_lags 59 = .ok (.iload_n 2, 1) := by decide +kernel
theorem dX7_lags_60 : decode cX7_lags 60 = .ok (.ireturn, 1) := by decide +kernel
set_option maxRecDepth 20000 in
theorem ggX7_put_X7_in : GoodIn wsX7_put wsX7_in := goodIn_r _ [6] (by decide +kernel) (by decide +kernel)
set_option maxRecDepth 20000 in
theorem gX7_put_X7_in : GoodIn wsX7_put (va_wsS RX7 41 yX7_in wsX7_in) := goodIn_app (goodIn_of _ (by decide +kernel)) ggX7_put_X7_in
set_option maxRecDepth 20000 in
theorem ggX7_put_X7_types : GoodIn wsX7_put wsX7_types := goodIn_r _ [10, 11, 2, 12, 13, 14, 15, 16, 17, 18] (by decide +kernel) (by decide +kernel)
set_option maxRecDepth 20000 in
theorem gX7_put_X7_types : GoodIn wsX7_put (wsV RX7 138 RX7 yX7_types wsX7_types) := goodIn_app (goodIn_of _ (by decide +kernel)) ggX7_put_X7_types
theorem dX7_put_0 : decode cX7_put 0 = .ok (.iconst 0, 1) := by decide +kernel
theorem dX7_put_1 : decode cX7_put 1 = .ok (.istore_n 3, 1) := by decide +kernel
theorem dX7_put_2 : decode cX7_put 2 = .ok (.iconst 1, 1) := by decide +kernel
theorem dX7_put_3 : decode cX7_put 3 = .ok (.istore 4, 2) := by decide +kernel
theorem dX7_put_5 : decode cX7_put 5 = .ok (.iconst 0, 1) := by decide +kernel
theorem dX7_put_6 : decode cX7_put 6 = .ok (.istore 5, 2) := by decide +kernel
theorem dX7_put_8 : decode cX7_put 8 = .ok (.iconst 0, 1) := by decide +kernel
theorem dX7_put_9 : decode cX7_put 9 = .ok (.istore 6, 2) := by decide +kernel
theorem dX7_put_11 : decode cX7_put 11 = .ok (.iload 6, 2) := by decide +kernel
theorem dX7_put_13 : decode cX7_put 13 = .ok (.bipush 8, 2) := by decide +kernel
theorem dX7_put_15 : decode cX7_put 15 = .ok (.if_icmp .ge 90, 3) := by decide +kernel
theorem dX7_put_18 : decode cX7_put 18 = .ok (.lload_n 1, 1) := by decide +kernel
theorem dX7_put_19 : decode cX7_put 19 = .ok (.bipush 8, 2) := by decide +kernel
theorem dX7_put_21 : decode cX7_put 21 = .ok (.iload 6, 2) := by decide +kernel
theorem dX7_put_23 : decode cX7_put 23 = .ok (.imul, 1) := by decide +kernel
theorem dX7_put_24 : decode cX7_put 24 = .ok (.lshr, 1) := by decide +kernel
theorem dX7_put_25 : decode cX7_put 25 = .ok (.ldc2_w 164, 3) := by decide +kernel
theorem dX7_put_28 : decode cX7_put 28 = .ok (.land, 1) := by decide +kernel
theorem dX7_put_29 : decode cX7_put 29 = .ok (.l2i, 1) := by decide +kernel
theorem dX7_put_30 : decode cX7_put 30 = .ok (.istore 7, 2) := by decide +kernel
theorem dX7_put_32 : decode cX7_put 32 = .ok (.iload 5, 2) := by decide +kernel
theorem dX7_put_34 : decode cX7_put 34 = .ok (.ifCond .ne 8, 3) := by decide +kernel
theorem dX7_put_37 : decode cX7_put 37 = .ok (.iload 7, 2) := by decide +kernel
theorem dX7_put_39 : decode cX7_put 39 = .ok (.ifCond .ne 7, 3) := by decide +kernel
theorem dX7_put_42 : decode cX7_put 42 = .ok (.iconst 1, 1) := by decide +kernel
theorem dX7_put_43 : decode cX7_put 43 = .ok (.goto 4, 3) := by decide +kernel
theorem dX7_put_46 : decode cX7_put 46 = .ok (.iconst 0, 1) := by decide +kernel
theorem dX7_put_47 : decode cX7_put 47 = .ok (.istore 5, 2) := by decide +kernel
theorem dX7_put_49 : decode cX7_put 49 = .ok (.iload 4, 2) := by decide +kernel
theorem dX7_put_51 : decode cX7_put 51 = .ok (.ifCond .eq 32, 3) := by decide +kernel
theorem dX7_put_54 : decode cX7_put 54 = .ok (.iload 5, 2) := by decide +kernel
theorem dX7_put_56 : decode cX7_put 56 = .ok (.ifCond .eq 11, 3) := by decide +kernel
theorem dX7_put_59 : decode cX7_put 59 = .ok (.iload 7, 2) := by decide +kernel
theorem dX7_put_61 : decode cX7_put 61 = .ok (.ifCond .ne 22, 3) := by decide +kernel
theorem dX7_put_64 : decode cX7_put 64 = .ok (.goto 15, 3) := by decide +kernel
theorem dX7_put_67 : decode cX7_put 67 = .ok (.iload 7, 2) := by decide +kernel
theorem dX7_put_69 : decode cX7_put 69 = .ok (.bipush 33, 2) := by decide +kernel
theorem dX7_put_71 : decode cX7_put 71 = .ok (.bipush 126, 2) := by decide +kernel
theorem dX7_put_73 : decode cX7_put 73 = .ok (.invokestatic 41, 3) := by decide +kernel
theorem dX7_put_76 : decode cX7_put 76 = .ok (.ifCond .eq 7, 3) := by decide +kernel
theorem dX7_put_79 : decode cX7_put 79 = .ok (.iconst 1, 1) := by decide +kernel
theorem dX7_put_80 : decode cX7_put 80 = .ok (.goto 4, 3) := by decide +kernel
theorem dX7_put_83 : decode cX7_put 83 = .ok (.iconst 0, 1) := by decide +kernel
theorem dX7_put_84 : decode cX7_put 84 = .ok (.istore 4, 2) := by decide +kernel
theorem dX7_put_86 : decode cX7_put 86 = .ok (.iload_n 3, 1) := by decide +kernel
theorem dX7_put_87 : decode cX7_put 87 = .ok (.iload 5, 2) := by decide +kernel
theorem dX7_put_89 : decode cX7_put 89 = .ok (.ifCond .eq 7, 3) := by decide +kernel
theorem dX7_put_92 : decode cX7_put 92 = .ok (.iconst 0, 1) := by decide +kernel
theorem dX7_put_93 : decode cX7_put 93 = .ok (.goto 4, 3) := by decide +kernel
theorem dX7_put_96 : decode cX7_put 96 = .ok (.iconst 1, 1) := by decide +kernel
theorem dX7_put_97 : decode cX7_put 97 = .ok (.iadd, 1) := by decide +kernel
theorem dX7_put_98 : decode cX7_put 98 = .ok (.istore_n 3, 1) := by decide +kernel
theorem dX7_put_99 : decode cX7_put 99 = .ok (.iinc 6 1, 3) := by decide +kernel
theorem dX7_put_102 : decode cX7_put 102 = .ok (.goto (-91), 3) := by decide +kernel
theorem dX7_put_105 : decode cX7_put 105 = .ok (.iload 4, 2) := by decide +kernel
theorem dX7_put_107 : decode cX7_put 107 = .ok (.ifCond .eq 7, 3) := by decide +kernel
theorem dX7_put_110 : decode cX7_put 110 = .ok (.iload_n 3, 1) := by decide +kernel
theorem dX7_put_111 : decode cX7_put 111 = .ok (.ifCond .ne 6, 3) := by decide +kernel
theorem dX7_put_114 : decode cX7_put 114 = .ok (.bipush (-2), 2) := by decide +kernel
theorem dX7_put_116 : decode cX7_put 116 = .ok (.ireturn, 1) := by decide +kernel
theorem dX7_put_117 : decode cX7_put 117 = .ok (.aload_n 0, 1) := by decide +kernel
theorem dX7_put_118 : decode cX7_put 118 = .ok (.getfield 135, 3) := by decide +kernel
theorem dX7_put_121 : decode cX7_put 121 = .ok (.iload_n 3, 1) := by decide +kernel
theorem dX7_put_122 : decode cX7_put 122 = .ok (.iadd, 1) := by decide +kernel
theorem dX7_put_123 : decode cX7_put 123 = .ok (.bipush 80, 2) := by decide +kernel
theorem dX7_put_125 : decode cX7_put 125 = .ok (.if_icmp .le 6, 3) := by decide +kernel
theorem dX7_put_128 : decode cX7_put 128 = .ok (.bipush (-4), 2) := by decide +kernel
theorem dX7_put_130 : decode cX7_put 130 = .ok (.ireturn, 1) := by decide +kernel
theorem dX7_put_131 : decode cX7_put 131 = .ok (.iload_n 3, 1) := by decide +kernel
theorem dX7_put_132 : decode cX7_put 132 = .ok (.iconst 1, 1) := by decide +kernel
theorem dX7_put_133 : decode cX7_put 133 = .ok (.isub, 1) := by decide +kernel
theorem dX7_put_134 : decode cX7_put 134 = .ok (.istore 6, 2) := by decide +kernel
theorem dX7_put_136 : decode cX7_put 136 = .ok (.iload 6, 2) := by decide +kernel
theorem dX7_put_138 : decode cX7_put 138 = .ok (.ifCond .lt 25, 3) := by decide +kernel
theorem dX7_put_141 : decode cX7_put 141 = .ok (.aload_n 0, 1) := by decide +kernel
theorem dX7_put_142 : decode cX7_put 142 = .ok (.lload_n 1, 1) := by decide +kernel
theorem dX7_put_143 : decode cX7_put 143 = .ok (.bipush 8, 2) := by decide +kernel
theorem dX7_put_145 : decode cX7_put 145 = .ok (.iload 6, 2) := by decide +kernel
theorem dX7_put_147 : decode cX7_put 147 = .ok (.imul, 1) := by decide +kernel
theorem dX7_put_148 : decode cX7_put 148 = .ok (.lshr, 1) := by decide +kernel
theorem dX7_put_149 : decode cX7_put 149 = .ok (.ldc2_w 164, 3) := by decide +kernel
theorem dX7_put_152 : decode cX7_put 152 = .ok (.land, 1) := by decide +kernel
theorem dX7_put_153 : decode cX7_put 153 = .ok (.l2i, 1) := by decide +kernel
theorem dX7_put_154 : decode cX7_put 154 = .ok (.invokevirtual 138, 3) := by decide +kernel
theorem dX7_put_157 : decode cX7_put 157 = .ok (.iinc 6 (-1), 3) := by decide +kernel
theorem dX7_put_160 : decode cX7_put 160 = .ok (.goto (-24), 3) := by decide +kernel
theorem dX7_put_163 : decode cX7_put 163 = .ok (.aload_n 0, 1) := by decide +kernel
theorem dX7_put_164 : decode cX7_put 164 = .ok (.getfield 135, 3) := by decide +kernel
theorem dX7_put_167 : decode cX7_put 167 = .ok (.ireturn, 1) := by decide +kernel
theorem dX7_wipe_0 : decode cX7_wipe 0 = .ok (.aload_n 0, 1) := by decide +kernel
theorem dX7_wipe_1 : decode cX7_wipe 1 = .ok (.getfield 135, 3) := by decide +kernel
theorem dX7_wipe_4 : decode cX7_wipe 4 = .ok (.istore_n 1, 1) := by decide +kernel
theorem dX7_wipe_5 : decode cX7_wipe 5 = .ok (.aload_n 0, 1) := by decide +kernel
theorem dX7_wipe_6 : decode cX7_wipe 6 = .ok (.iconst 0, 1) := by decide +kernel
theorem dX7_wipe_7 : decode cX7_wipe 7 = .ok (.putfield 135, 3) := by decide +kernel
theorem dX7_wipe_10 : decode cX7_wipe 10 = .ok (.iload_n 1, 1) := by decide +kernel
theorem dX7_wipe_11 : decode cX7_wipe 11 = .ok (.ireturn, 1) := by decide +kernel
set_option maxRecDepth 20000 in
theorem ggX7_digit_X7_in : GoodIn wsX7_digit wsX7_in := goodIn_r _ [6] (by decide +kernel) (by decide +kernel)
set_option maxRecDepth 20000 in
theorem gX7_digit_X7_in : GoodIn wsX7_digit (va_wsS RX7 41 yX7_in wsX7_in) := goodIn_app (goodIn_of _ (by decide +kernel)) ggX7_digit_X7_in
theorem dX7_digit_0 : decode cX7_digit 0 = .ok (.iload_n 1, 1) := by decide +kernel
theorem dX7_digit_1 : decode cX7_digit 1 = .ok (.aload_n 0, 1) := by decide +kernel
theorem dX7_digit_2 : decode cX7_digit 2 = .ok (.getfield 135, 3) := by decide +kernel
theorem dX7_digit_5 : decode cX7_digit 5 = .ok (.if_icmp .ge 31, 3) := by decide +kernel
theorem dX7_digit_8 : decode cX7_digit 8 = .ok (.aload_n 0, 1) := by decide +kernel
theorem dX7_digit_9 : decode cX7_digit 9 = .ok (.getfield 23, 3) := by decide +kernel
theorem dX7_digit_12 : decode cX7_digit 12 = .ok (.iload_n 1, 1) := by decide +kernel
theorem dX7_digit_13 : decode cX7_digit 13 = .ok (.iaload, 1) := by decide +kernel
theorem dX7_digit_14 : decode cX7_digit 14 = .ok (.bipush 48, 2) := by decide +kernel
theorem dX7_digit_16 : decode cX7_digit 16 = .ok (.bipush 57, 2) := by decide +kernel
theorem dX7_digit_18 : decode cX7_digit 18 = .ok (.invokestatic 41, 3) := by decide +kernel
theorem dX7_digit_21 : decode cX7_digit 21 = .ok (.ifCond .eq 15, 3) := by decide +kernel
theorem dX7_digit_24 : decode cX7_digit 24 = .ok (.aload_n 0, 1) := by decide +kernel
theorem dX7_digit_25 : decode cX7_digit 25 = .ok (.getfield 23, 3) := by decide +kernel
theorem dX7_digit_28 : decode cX7_digit 28 = .ok (.iload_n 1, 1) := by decide +kernel
theorem dX7_digit_29 : decode cX7_digit 29 = .ok (.iaload, 1) := by decide +kernel
theorem dX7_digit_30 : decode cX7_digit 30 = .ok (.bipush 48, 2) := by decide +kernel
theorem dX7_digit_32 : decode cX7_digit 32 = .ok (.isub, 1) := by decide +kernel
theorem dX7_digit_33 : decode cX7_digit 33 = .ok (.goto 4, 3) := by decide +kernel
theorem dX7_digit_36 : decode cX7_digit 36 = .ok (.iconst (-1), 1) := by decide +kernel
theorem dX7_digit_37 : decode cX7_digit 37 = .ok (.ireturn, 1) := by decide +kernel
theorem dX7_code_0 : decode cX7_code 0 = .ok (.iload_n 1, 1) := by decide +kernel
theorem dX7_code_1 : decode cX7_code 1 = .ok (.aload_n 0, 1) := by decide +kernel
theorem dX7_code_2 : decode cX7_code 2 = .ok (.getfield 135, 3) := by decide +kernel
theorem dX7_code_5 : decode cX7_code 5 = .ok (.if_icmp .ge 12, 3) := by decide +kernel
theorem dX7_code_8 : decode cX7_code 8 = .ok (.aload_n 0, 1) := by decide +kernel
theorem dX7_code_9 : decode cX7_code 9 = .ok (.getfield 23, 3) := by decide +kernel
theorem dX7_code_12 : decode cX7_code 12 = .ok (.iload_n 1, 1) := by decide +kernel
theorem dX7_code_13 : decode cX7_code 13 = .ok (.iaload, 1) := by decide +kernel
theorem dX7_code_14 : decode cX7_code 14 = .ok (.goto 4, 3) := by decide +kernel
theorem dX7_code_17 : decode cX7_code 17 = .ok (.iconst (-1), 1) := by decide +kernel
theorem dX7_code_18 : decode cX7_code 18 = .ok (.ireturn, 1) := by decide +kernel
set_option maxRecDepth 20000 in
theorem ggX7_numberEnd_X7_digit : GoodIn wsX7_numberEnd wsX7_digit := goodIn_r _ [5, 6, 7, 8, 9, 4, 10, 11, 12, 13, 14, 15, 16, 17] (by decide +kernel) (by decide +kernel)
set_option maxRecDepth 20000 in
theorem gX7_numberEnd_X7_digit : GoodIn wsX7_numberEnd (wsV RX7 166 RX7 yX7_digit wsX7_digit) := goodIn_app (goodIn_of _ (by decide +kernel)) ggX7_numberEnd_X7_digit
theorem dX7_numberEnd_0 : decode cX7_numberEnd 0 = .ok (.aload_n 0, 1) := by decide +kernel
theorem dX7_numberEnd_1 : decode cX7_numberEnd 1 = .ok (.iload_n 1, 1) := by decide +kernel
theorem dX7_numberEnd_2 : decode cX7_numberEnd 2 = .ok (.invokevirtual 166, 3) := by decide +kernel
theorem dX7_numberEnd_5 : decode cX7_numberEnd 5 = .ok (.ifCond .ge 7, 3) := by decide +kernel
theorem dX7_numberEnd_8 : decode cX7_numberEnd 8 = .ok (.iconst (-1), 1) := by decide +kernel
theorem dX7_numberEnd_9 : decode cX7_numberEnd 9 = .ok (.iload_n 1, 1) := by decide +kernel
theorem dX7_numberEnd_10 : decode cX7_numberEnd 10 = .ok (.isub, 1) := by decide +kernel
theorem dX7_numberEnd_11 : decode cX7_numberEnd 11 = .ok (.ireturn, 1) := by decide +kernel
theorem dX7_numberEnd_12 : decode cX7_numberEnd 12 = .ok (.iload_n 1, 1) := by decide +kernel
theorem dX7_numberEnd_13 : decode cX7_numberEnd 13 = .ok (.iconst 1, 1) := by decide +kernel
theorem dX7_numberEnd_14 : decode cX7_numberEnd 14 = .ok (.iadd, 1) := by decide +kernel
theorem dX7_numberEnd_15 : decode cX7_numberEnd 15 = .ok (.istore_n 2, 1) := by decide +kernel
theorem dX7_numberEnd_16 : decode cX7_numberEnd 16 = .ok (.aload_n 0, 1) := by decide +kernel
theorem dX7_numberEnd_17 : decode cX7_numberEnd 17 = .ok (.iload_n 1, 1) := by decide +kernel
theorem dX7_numberEnd_18 : decode cX7_numberEnd 18 = .ok (.invokevirtual 166, 3) := by decide +kernel
theorem dX7_numberEnd_21 : decode cX7_numberEnd 21 = .ok (.ifCond .le 24, 3) := by decide +kernel
theorem dX7_numberEnd_24 : decode cX7_numberEnd 24 = .ok (.iload_n 2, 1) := by decide +kernel
theorem dX7_numberEnd_25 : decode cX7_numberEnd 25 = .ok (.iload_n 1, 1) := by decide +kernel
theorem dX7_numberEnd_26 : decode cX7_numberEnd 26 = .ok (.iconst 4, 1) := by decide +kernel
theorem dX7_numberEnd_27 : decode cX7_numberEnd 27 = .ok (.iadd, 1) := by decide +kernel
theorem dX7_numberEnd_28 : decode cX7_numberEnd 28 = .ok (.if_icmp .ge 17, 3) := by decide +kernel
theorem dX7_numberEnd_31 : decode cX7_numberEnd 31 = .ok (.aload_n 0, 1) := by decide +kernel
theorem dX7_numberEnd_32 : decode cX7_numberEnd 32 = .ok (.iload_n 2, 1) := by decide +kernel
theorem dX7_numberEnd_33 : decode cX7_numberEnd 33 = .ok (.invokevirtual 166, 3) := by decide +kernel
theorem dX7_numberEnd_36 : decode cX7_numberEnd 36 = .ok (.ifCond .lt 9, 3) := by decide +kernel
theorem dX7_numberEnd_39 : decode cX7_numberEnd 39 = .ok (.iinc 2 1, 3) := by decide +kernel
theorem dX7_numberEnd_42 : decode cX7_numberEnd 42 = .ok (.goto (-26), 3) := by decide +kernel
theorem dX7_numberEnd_45 : decode cX7_numberEnd 45 = .ok (.iload_n 2, 1) := by decide +kernel
theorem dX7_numberEnd_46 : decode cX7_numberEnd 46 = .ok (.ireturn, 1) := by decide +kernel
set_option maxRecDepth 20000 in
theorem ggX7_numberAt_X7_numberEnd : GoodIn wsX7_numberAt wsX7_numberEnd := goodIn_r _ [5, 6, 7, 8, 4, 9, 10, 11, 12, 13, 14, 15, 16, 17, 18, 19, 20, 21] (by decide +kernel) (by decide +kernel)
set_option maxRecDepth 20000 in
theorem gX7_numberAt_X7_numberEnd : GoodIn wsX7_numberAt (wsV RX7 169 RX7 yX7_numberEnd wsX7_numberEnd) := goodIn_app (goodIn_of _ (by decide +kernel)) ggX7_numberAt_X7_numberEnd
set_option maxRecDepth 20000 in
theorem ggX7_numberAt_X7_digit : GoodIn wsX7_numberAt wsX7_digit := goodIn_r _ [9, 10, 11, 12, 13, 4, 14, 15, 16, 17, 18, 19, 20, 21] (by decide +kernel) (by decide +kernel)
set_option maxRecDepth 20000 in
theorem gX7_numberAt_X7_digit : GoodIn wsX7_numberAt (wsV RX7 166 RX7 yX7_digit wsX7_digit) := goodIn_app (goodIn_of _ (by decide +kernel)) ggX7_numberAt_X7_digit
theorem dX7_numberAt_0 : decode cX7_numberAt 0 = .ok (.iconst 0, 1) := by decide +kernel
theorem dX7_numberAt_1 : decode cX7_numberAt 1 = .ok (.istore_n 2, 1) := by decide +kernel
theorem dX7_numberAt_2 : decode cX7_numberAt 2 = .ok (.iload_n 1, 1) := by decide +kernel
theorem dX7_numberAt_3 : decode cX7_numberAt 3 = .ok (.istore_n 3, 1) := by decide +kernel
theorem dX7_numberAt_4 : decode cX7_numberAt 4 = .ok (.iload_n 3, 1) := by decide +kernel
theorem dX7_numberAt_5 : decode cX7_numberAt 5 = .ok (.aload_n 0, 1) := by decide +kernel
theorem dX7_numberAt_6 : decode cX7_numberAt 6 = .ok (.iload_n 1, 1) := by decide +kernel
theorem dX7_numberAt_7 : decode cX7_numberAt 7 = .ok (.invokevirtual 169, 3) := by decide +kernel
theorem dX7_numberAt_10 : decode cX7_numberAt 10 = .ok (.if_icmp .ge 20, 3) := by decide +kernel
theorem dX7_numberAt_13 : decode cX7_numberAt 13 = .ok (.bipush 10, 2) := by decide +kernel
theorem dX7_numberAt_15 : decode cX7_numberAt 15 = .ok (.iload_n 2, 1) := by decide +kernel
theorem dX7_numberAt_16 : decode cX7_numberAt 16 = .ok (.imul, 1) := by decide +kernel
theorem dX7_numberAt_17 : decode cX7_numberAt 17 = .ok (.aload_n 0, 1) := by decide +kernel
theorem dX7_numberAt_18 : decode cX7_numberAt 18 = .ok (.iload_n 3, 1) := by decide +kernel
theorem dX7_numberAt_19 : decode cX7_numberAt 19 = .ok (.invokevirtual 166, 3) := by decide +kernel
theorem dX7_numberAt_22 : decode cX7_numberAt 22 = .ok (.iadd, 1) := by decide +kernel
theorem dX7_numberAt_23 : decode cX7_numberAt 23 = .ok (.istore_n 2, 1) := by decide +kernel
theorem dX7_numberAt_24 : decode cX7_numberAt 24 = .ok (.iinc 3 1, 3) := by decide +kernel
theorem dX7_numberAt_27 : decode cX7_numberAt 27 = .ok (.goto (-23), 3) := by decide +kernel
theorem dX7_numberAt_30 : decode cX7_numberAt 30 = .ok (.iload_n 2, 1) := by decide +kernel
theorem dX7_numberAt_31 : decode cX7_numberAt 31 = .ok (.ireturn, 1) := by decide +kernel
set_option maxRecDepth 20000 in
theorem ggX7_orderEnd_X7_code : GoodIn wsX7_orderEnd wsX7_code := goodIn_r _ [5, 6, 7, 19, 20, 21, 22, 23, 24, 25] (by decide +kernel) (by decide +kernel)
set_option maxRecDepth 20000 in
theorem gX7_orderEnd_X7_code : GoodIn wsX7_orderEnd (wsV RX7 172 RX7 yX7_code wsX7_code) := goodIn_app (goodIn_of _ (by decide +kernel)) ggX7_orderEnd_X7_code
set_option maxRecDepth 20000 in
theorem ggX7_orderEnd_X7_digit : GoodIn wsX7_orderEnd wsX7_digit := goodIn_r _ [11, 6, 7, 12, 13, 4, 14, 19, 20, 21, 22, 23, 24, 25] (by decide +kernel) (by decide +kernel)
set_option maxRecDepth 20000 in
theorem gX7_orderEnd_X7_digit : GoodIn wsX7_orderEnd (wsV RX7 166 RX7 yX7_digit wsX7_digit) := goodIn_app (goodIn_of _ (by decide +kernel)) ggX7_orderEnd_X7_digit
set_option maxRecDepth 20000 in
theorem ggX7_orderEnd_X7_numberEnd : GoodIn wsX7_orderEnd wsX7_numberEnd := goodIn_r _ [18, 8, 9, 10, 4, 11, 6, 7, 12, 13, 14, 19, 20, 21, 22, 23, 24, 25] (by decide +kernel) (by decide +kernel)
set_option maxRecDepth 20000 in
theorem gX7_orderEnd_X7_numberEnd : GoodIn wsX7_orderEnd (wsV RX7 169 RX7 yX7_numberEnd wsX7_numberEnd) := goodIn_app (goodIn_of _ (by decide +kernel)) ggX7_orderEnd_X7_numberEnd
theorem dX7_orderEnd_0 : decode cX7_orderEnd 0 = .ok (.aload_n 0, 1) := by decide +kernel
theorem dX7_orderEnd_1 : decode cX7_orderEnd 1 = .ok (.iload_n 1, 1) := by decide +kernel
theorem dX7_orderEnd_2 : decode cX7_orderEnd 2 = .ok (.invokevirtual 172, 3) := by decide +kernel
theorem dX7_orderEnd_5 : decode cX7_orderEnd 5 = .ok (.lookupswitch 150 #[(98, 129), (108, 79), (109, 59), (115, 121), (116, 121), (118, 129)], 59) := by decide +kernel
theorem dX7_orderEnd_64 : decode cX7_orderEnd 64 = .ok (.aload_n 0, 1) := by decide +kernel
theorem dX7_orderEnd_65 : decode cX7_orderEnd 65 = .ok (.iload_n 1, 1) := by decide +kernel
theorem dX7_orderEnd_66 : decode cX7_orderEnd 66 = .ok (.iconst 1, 1) := by decide +kernel
theorem dX7_orderEnd_67 : decode cX7_orderEnd 67 = .ok (.iadd, 1) := by decide +kernel
theorem dX7_orderEnd_68 : decode cX7_orderEnd 68 = .ok (.invokevirtual 166, 3) := by decide +kernel
theorem dX7_orderEnd_71 : decode cX7_orderEnd 71 = .ok (.ifCond .ge 9, 3) := by decide +kernel
theorem dX7_orderEnd_74 : decode cX7_orderEnd 74 = .ok (.iload_n 1, 1) := by decide +kernel
theorem dX7_orderEnd_75 : decode cX7_orderEnd 75 = .ok (.iconst 1, 1) := by decide +kernel
theorem dX7_orderEnd_76 : decode cX7_orderEnd 76 = .ok (.iadd, 1) := by decide +kernel
theorem dX7_orderEnd_77 : decode cX7_orderEnd 77 = .ok (.goto 6, 3) := by decide +kernel
theorem dX7_orderEnd_80 : decode cX7_orderEnd 80 = .ok (.iload_n 1, 1) := by decide +kernel
theorem dX7_orderEnd_81 : decode cX7_orderEnd 81 = .ok (.iconst 2, 1) := by decide +kernel
theorem dX7_orderEnd_82 : decode cX7_orderEnd 82 = .ok (.iadd, 1) := by decide +kernel
theorem dX7_orderEnd_83 : decode cX7_orderEnd 83 = .ok (.ireturn, 1) := by decide +kernel
theorem dX7_orderEnd_84 : decode cX7_orderEnd 84 = .ok (.aload_n 0, 1) := by decide +kernel
theorem dX7_orderEnd_85 : decode cX7_orderEnd 85 = .ok (.iload_n 1, 1) := by decide +kernel
theorem dX7_orderEnd_86 : decode cX7_orderEnd 86 = .ok (.iconst 1, 1) := by decide +kernel
theorem dX7_orderEnd_87 : decode cX7_orderEnd 87 = .ok (.iadd, 1) := by decide +kernel
theorem dX7_orderEnd_88 : decode cX7_orderEnd 88 = .ok (.invokevirtual 166, 3) := by decide +kernel
theorem dX7_orderEnd_91 : decode cX7_orderEnd 91 = .ok (.ifCond .ge 8, 3) := by decide +kernel
theorem dX7_orderEnd_94 : decode cX7_orderEnd 94 = .ok (.bipush (-2), 2) := by decide +kernel
theorem dX7_orderEnd_96 : decode cX7_orderEnd 96 = .ok (.iload_n 1, 1) := by decide +kernel
theorem dX7_orderEnd_97 : decode cX7_orderEnd 97 = .ok (.isub, 1) := by decide +kernel
theorem dX7_orderEnd_98 : decode cX7_orderEnd 98 = .ok (.ireturn, 1) := by decide +kernel
theorem dX7_orderEnd_99 : decode cX7_orderEnd 99 = .ok (.aload_n 0, 1) := by decide +kernel
theorem dX7_orderEnd_100 : decode cX7_orderEnd 100 = .ok (.iload_n 1, 1) := by decide +kernel
theorem dX7_orderEnd_101 : decode cX7_orderEnd 101 = .ok (.iconst 2, 1) := by decide +kernel
theorem dX7_orderEnd_102 : decode cX7_orderEnd 102 = .ok (.iadd, 1) := by decide +kernel
theorem dX7_orderEnd_103 : decode cX7_orderEnd 103 = .ok (.invokevirtual 172, 3) := by decide +kernel
theorem dX7_orderEnd_106 : decode cX7_orderEnd 106 = .ok (.bipush 61, 2) := by decide +kernel
theorem dX7_orderEnd_108 : decode cX7_orderEnd 108 = .ok (.if_icmp .ne 13, 3) := by decide +kernel
theorem dX7_orderEnd_111 : decode cX7_orderEnd 111 = .ok (.aload_n 0, 1) := by decide +kernel
theorem dX7_orderEnd_112 : decode cX7_orderEnd 112 = .ok (.iload_n 1, 1) := by decide +kernel
theorem dX7_orderEnd_113 : decode cX7_orderEnd 113 = .ok (.iconst 3, 1) := by decide +kernel
theorem dX7_orderEnd_114 : decode cX7_orderEnd 114 = .ok (.iadd, 1) := by decide +kernel
theorem dX7_orderEnd_115 : decode cX7_orderEnd 115 = .ok (.invokevirtual 169, 3) := by decide +kernel
theorem dX7_orderEnd_118 : decode cX7_orderEnd 118 = .ok (.goto 7, 3) := by decide +kernel
theorem dX7_orderEnd_121 : decode cX7_orderEnd 121 = .ok (.bipush (-3), 2) := by decide +kernel
theorem dX7_orderEnd_123 : decode cX7_orderEnd 123 = .ok (.iload_n 1, 1) := by decide +kernel
theorem dX7_orderEnd_124 : decode cX7_orderEnd 124 = .ok (.isub, 1) := by decide +kernel
theorem dX7_orderEnd_125 : decode cX7_orderEnd 125 = .ok (.ireturn, 1) := by decide +kernel
theorem dX7_orderEnd_126 : decode cX7_orderEnd 126 = .ok (.aload_n 0, 1) := by decide +kernel
theorem dX7_orderEnd_127 : decode cX7_orderEnd 127 = .ok (.iload_n 1, 1) := by decide +kernel
theorem dX7_orderEnd_128 : decode cX7_orderEnd 128 = .ok (.iconst 1, 1) := by decide +kernel
theorem dX7_orderEnd_129 : decode cX7_orderEnd 129 = .ok (.iadd, 1) := by decide +kernel
theorem dX7_orderEnd_130 : decode cX7_orderEnd 130 = .ok (.invokevirtual 169, 3) := by decide +kernel
theorem dX7_orderEnd_133 : decode cX7_orderEnd 133 = .ok (.ireturn, 1) := by decide +kernel
theorem dX7_orderEnd_134 : decode cX7_orderEnd 134 = .ok (.aload_n 0, 1) := by decide +kernel
theorem dX7_orderEnd_135 : decode cX7_orderEnd 135 = .ok (.iload_n 1, 1) := by decide +kernel
theorem dX7_orderEnd_136 : decode cX7_orderEnd 136 = .ok (.iconst 1, 1) := by decide +kernel
theorem dX7_orderEnd_137 : decode cX7_orderEnd 137 = .ok (.iadd, 1) := by decide +kernel
theorem dX7_orderEnd_138 : decode cX7_orderEnd 138 = .ok (.invokevirtual 166, 3) := by decide +kernel
theorem dX7_orderEnd_141 : decode cX7_orderEnd 141 = .ok (.ifCond .ge 10, 3) := by decide +kernel
theorem dX7_orderEnd_144 : decode cX7_orderEnd 144 = .ok (.bipush (-2), 2) := by decide +kernel
theorem dX7_orderEnd_146 : decode cX7_orderEnd 146 = .ok (.iload_n 1, 1) := by decide +kernel
theorem dX7_orderEnd_147 : decode cX7_orderEnd 147 = .ok (.isub, 1) := by decide +kernel
theorem dX7_orderEnd_148 : decode cX7_orderEnd 148 = .ok (.goto 6, 3) := by decide +kernel
theorem dX7_orderEnd_151 : decode cX7_orderEnd 151 = .ok (.iload_n 1, 1) := by decide +kernel
theorem dX7_orderEnd_152 : decode cX7_orderEnd 152 = .ok (.iconst 2, 1) := by decide +kernel
theorem dX7_orderEnd_153 : decode cX7_orderEnd 153 = .ok (.iadd, 1) := by decide +kernel
theorem dX7_orderEnd_154 : decode cX7_orderEnd 154 = .ok (.ireturn, 1) := by decide +kernel
theorem dX7_orderEnd_155 : decode cX7_orderEnd 155 = .ok (.iconst (-1), 1) := by decide +kernel
theorem dX7_orderEnd_156 : decode cX7_orderEnd 156 = .ok (.iload_n 1, 1) := by decide +kernel
theorem dX7_orderEnd_157 : decode cX7_orderEnd 157 = .ok (.isub, 1) := by decide +kernel
theorem dX7_orderEnd_158 : decode cX7_orderEnd 158 = .ok (.ireturn, 1) := by decide +kernel
set_option maxRecDepth 20000 in
theorem ggX7_fault_X7_orderEnd : GoodIn wsX7_fault wsX7_orderEnd := goodIn_r _ [6, 7, 8, 9, 5, 10, 1, 11, 12, 13, 14, 15, 16, 17, 18, 19, 20, 21, 22, 23, 24, 25, 26, 27, 28, 29] (by decide +kernel) (by decide +kernel)
set_option maxRecDepth 20000 in
theorem gX7_fault_X7_orderEnd : GoodIn wsX7_fault (wsV RX7 175 RX7 yX7_orderEnd wsX7_orderEnd) := goodIn_app (goodIn_of _ (by decide +kernel)) ggX7_fault_X7_orderEnd
set_option maxRecDepth 20000 in
theorem ggX7_fault_X7_code : GoodIn wsX7_fault wsX7_code := goodIn_r _ [10, 1, 11, 23, 24, 25, 26, 27, 28, 29] (by decide +kernel) (by decide +kernel)
set_option maxRecDepth 20000 in
theorem gX7_fault_X7_code : GoodIn wsX7_fault (wsV RX7 172 RX7 yX7_code wsX7_code) := goodIn_app (goodIn_of _ (by decide +kernel)) ggX7_fault_X7_code
theorem dX7_fault_0 : decode cX7_fault 0 = .ok (.iconst 0, 1) := by decide +kernel
theorem dX7_fault_1 : decode cX7_fault 1 = .ok (.istore_n 1, 1) := by decide +kernel
theorem dX7_fault_2 : decode cX7_fault 2 = .ok (.iconst 0, 1) := by decide +kernel
theorem dX7_fault_3 : decode cX7_fault 3 = .ok (.istore_n 2, 1) := by decide +kernel
theorem dX7_fault_4 : decode cX7_fault 4 = .ok (.iload_n 2, 1) := by decide +kernel
theorem dX7_fault_5 : decode cX7_fault 5 = .ok (.bipush 80, 2) := by decide +kernel
theorem dX7_fault_7 : decode cX7_fault 7 = .ok (.if_icmp .ge 50, 3) := by decide +kernel
theorem dX7_fault_10 : decode cX7_fault 10 = .ok (.aload_n 0, 1) := by decide +kernel
theorem dX7_fault_11 : decode cX7_fault 11 = .ok (.iload_n 1, 1) := by decide +kernel
theorem dX7_fault_12 : decode cX7_fault 12 = .ok (.invokevirtual 175, 3) := by decide +kernel
theorem dX7_fault_15 : decode cX7_fault 15 = .ok (.istore_n 3, 1) := by decide +kernel
theorem dX7_fault_16 : decode cX7_fault 16 = .ok (.iload_n 3, 1) := by decide +kernel
theorem dX7_fault_17 : decode cX7_fault 17 = .ok (.ifCond .ge 7, 3) := by decide +kernel
theorem dX7_fault_20 : decode cX7_fault 20 = .ok (.iconst (-1), 1) := by decide +kernel
theorem dX7_fault_21 : decode cX7_fault 21 = .ok (.iload_n 3, 1) := by decide +kernel
theorem dX7_fault_22 : decode cX7_fault 22 = .ok (.isub, 1) := by decide +kernel
theorem dX7_fault_23 : decode cX7_fault 23 = .ok (.ireturn, 1) := by decide +kernel
theorem dX7_fault_24 : decode cX7_fault 24 = .ok (.iload_n 3, 1) := by decide +kernel
theorem dX7_fault_25 : decode cX7_fault 25 = .ok (.aload_n 0, 1) := by decide +kernel
theorem dX7_fault_26 : decode cX7_fault 26 = .ok (.getfield 135, 3) := by decide +kernel
theorem dX7_fault_29 : decode cX7_fault 29 = .ok (.if_icmp .ne 6, 3) := by decide +kernel
theorem dX7_fault_32 : decode cX7_fault 32 = .ok (.bipush (-6), 2) := by decide +kernel
theorem dX7_fault_34 : decode cX7_fault 34 = .ok (.ireturn, 1) := by decide +kernel
theorem dX7_fault_35 : decode cX7_fault 35 = .ok (.aload_n 0, 1) := by decide +kernel
theorem dX7_fault_36 : decode cX7_fault 36 = .ok (.iload_n 3, 1) := by decide +kernel
theorem dX7_fault_37 : decode cX7_fault 37 = .ok (.invokevirtual 172, 3) := by decide +kernel
theorem dX7_fault_40 : decode cX7_fault 40 = .ok (.bipush 59, 2) := by decide +kernel
theorem dX7_fault_42 : decode cX7_fault 42 = .ok (.if_icmp .eq 5, 3) := by decide +kernel
theorem dX7_fault_45 : decode cX7_fault 45 = .ok (.iload_n 3, 1) := by decide +kernel
theorem dX7_fault_46 : decode cX7_fault 46 = .ok (.ireturn, 1) := by decide +kernel
theorem dX7_fault_47 : decode cX7_fault 47 = .ok (.iload_n 3, 1) := by decide +kernel
theorem dX7_fault_48 : decode cX7_fault 48 = .ok (.iconst 1, 1) := by decide +kernel
theorem dX7_fault_49 : decode cX7_fault 49 = .ok (.iadd, 1) := by decide +kernel
theorem dX7_fault_50 : decode cX7_fault 50 = .ok (.istore_n 1, 1) := by decide +kernel
theorem dX7_fault_51 : decode cX7_fault 51 = .ok (.iinc 2 1, 3) := by decide +kernel
theorem dX7_fault_54 : decode cX7_fault 54 = .ok (.goto (-50), 3) := by decide +kernel
theorem dX7_fault_57 : decode cX7_fault 57 = .ok (.bipush (-6), 2) := by decide +kernel
theorem dX7_fault_59 : decode cX7_fault 59 = .ok (.ireturn, 1) := by decide +kernel
set_option maxRecDepth 20000 in
theorem ggX7_whyNot_X7_digit : GoodIn wsX7_whyNot wsX7_digit := goodIn_r _ [5, 6, 7, 8, 9, 4, 10, 60, 61, 62, 63, 64, 65, 66] (by decide +kernel) (by decide +kernel)
set_option maxRecDepth 20000 in
theorem gX7_whyNot_X7_digit : GoodIn wsX7_whyNot (wsV RX7 166 RX7 yX7_digit wsX7_digit) := goodIn_app (goodIn_of _ (by decide +kernel)) ggX7_whyNot_X7_digit
set_option maxRecDepth 20000 in
theorem ggX7_whyNot_X7_code : GoodIn wsX7_whyNot wsX7_code := goodIn_r _ [14, 6, 7, 60, 61, 62, 63, 64, 65, 66] (by decide +kernel) (by decide +kernel)
set_option maxRecDepth 20000 in
theorem gX7_whyNot_X7_code : GoodIn wsX7_whyNot (wsV RX7 172 RX7 yX7_code wsX7_code) := goodIn_app (goodIn_of _ (by decide +kernel)) ggX7_whyNot_X7_code
set_option maxRecDepth 20000 in
theorem ggX7_whyNot_X7_whyNotMeter : GoodIn wsX7_whyNot wsX7_whyNotMeter := goodIn_r _ [18, 19, 20, 21, 4, 22, 23, 24, 25, 26, 27, 8, 9, 10, 60, 61, 62, 63, 64, 65, 66] (by decide +kernel) (by decide +kernel)
set_option maxRecDepth 20000 in
theorem gX7_whyNot_X7_whyNotMeter : GoodIn wsX7_whyNot (wsV RX7 101 RX7 yX7_whyNotMeter wsX7_whyNotMeter) := goodIn_app (goodIn_of _ (by decide +kernel)) ggX7_whyNot_X7_whyNotMeter
set_option maxRecDepth 20000 in
theorem ggX7_whyNot_X7_numberAt : GoodIn wsX7_whyNot wsX7_numberAt := goodIn_r _ [31, 32, 33, 34, 4, 35, 1, 2, 3, 5, 6, 7, 8, 9, 10, 60, 61, 62, 63, 64, 65, 66] (by decide +kernel) (by decide +kernel)
set_option maxRecDepth 20000 in
theorem gX7_whyNot_X7_numberAt : GoodIn wsX7_whyNot (wsV RX7 178 RX7 yX7_numberAt wsX7_numberAt) := goodIn_app (goodIn_of _ (by decide +kernel)) ggX7_whyNot_X7_numberAt
set_option maxRecDepth 20000 in
theorem ggX7_whyNot_X7_whyNotLoad : GoodIn wsX7_whyNot wsX7_whyNotLoad := goodIn_r _ [39, 24, 25, 26, 4, 27, 19, 20, 21, 22, 23, 8, 9, 10, 60, 61, 62, 63, 64, 65, 66] (by decide +kernel) (by decide +kernel)
set_option maxRecDepth 20000 in
theorem gX7_whyNot_X7_whyNotLoad : GoodIn wsX7_whyNot (wsV RX7 107 RX7 yX7_whyNotLoad wsX7_whyNotLoad) := goodIn_app (goodIn_of _ (by decide +kernel)) ggX7_whyNot_X7_whyNotLoad
set_option maxRecDepth 20000 in
theorem ggX7_whyNot_X7_isLoad : GoodIn wsX7_whyNot wsX7_isLoad := goodIn_r _ [43, 19, 20, 21, 4, 22, 23, 8, 9, 10, 60, 61, 62, 63, 64, 65, 66] (by decide +kernel) (by decide +kernel)
set_option maxRecDepth 20000 in
theorem gX7_whyNot_X7_isLoad : GoodIn wsX7_whyNot (wsV RX7 113 RX7 yX7_isLoad wsX7_isLoad) := goodIn_app (goodIn_of _ (by decide +kernel)) ggX7_whyNot_X7_isLoad
set_option maxRecDepth 20000 in
theorem ggX7_whyNot_X7_whyNotPass : GoodIn wsX7_whyNot wsX7_whyNotPass := goodIn_r _ [47, 48, 8, 9, 4, 10, 19, 20, 21, 22, 23, 60, 61, 62, 63, 64, 65, 66] (by decide +kernel) (by decide +kernel)
set_option maxRecDepth 20000 in
theorem gX7_whyNot_X7_whyNotPass : GoodIn wsX7_whyNot (wsV RX7 129 RX7 yX7_whyNotPass wsX7_whyNotPass) := goodIn_app (goodIn_of _ (by decide +kernel)) ggX7_whyNot_X7_whyNotPass
set_option maxRecDepth 20000 in
theorem ggX7_whyNot_X7_whyNotTamper : GoodIn wsX7_whyNot wsX7_whyNotTamper := goodIn_r _ [52, 24, 25, 26, 4, 27, 19, 20, 21, 22, 23, 8, 9, 10, 53, 54, 55, 56, 57, 58, 59, 60, 61, 62, 63, 64, 65, 66] (by decide +kernel) (by decide +kernel)
set_option maxRecDepth 20000 in
theorem gX7_whyNot_X7_whyNotTamper : GoodIn wsX7_whyNot (wsV RX7 119 RX7 yX7_whyNotTamper wsX7_whyNotTamper) := goodIn_app (goodIn_of _ (by decide +kernel)) ggX7_whyNot_X7_whyNotTamper
set_option maxRecDepth 20000 in
theorem ggX7_whyNot_X7_isMeter : GoodIn wsX7_whyNot wsX7_isMeter := goodIn_r _ [27, 19, 20, 21, 4, 22, 23, 8, 9, 10, 60, 61, 62, 63, 64, 65, 66] (by decide +kernel) (by decide +kernel)
set_option maxRecDepth 20000 in
theorem gX7_whyNot_X7_isMeter : GoodIn wsX7_whyNot (wsV RX7 95 RX7 yX7_isMeter wsX7_isMeter) := goodIn_app (goodIn_of _ (by decide +kernel)) ggX7_whyNot_X7_isMeter
theorem dX7_whyNot_0 : decode cX7_whyNot 0 = .ok (.aload_n 0, 1) := by decide +kernel
theorem dX7_whyNot_1 : decode cX7_whyNot 1 = .ok (.iload_n 1, 1) := by decide +kernel
theorem dX7_whyNot_2 : decode cX7_whyNot 2 = .ok (.iconst 1, 1) := by decide +kernel
theorem dX7_whyNot_3 : decode cX7_whyNot 3 = .ok (.iadd, 1) := by decide +kernel
theorem dX7_whyNot_4 : decode cX7_whyNot 4 = .ok (.invokevirtual 166, 3) := by decide +kernel
theorem dX7_whyNot_7 : decode cX7_whyNot 7 = .ok (.istore_n 2, 1) := by decide +kernel
theorem dX7_whyNot_8 : decode cX7_whyNot 8 = .ok (.aload_n 0, 1) := by decide +kernel
theorem dX7_whyNot_9 : decode cX7_whyNot 9 = .ok (.iload_n 1, 1) := by decide +kernel
theorem dX7_whyNot_10 : decode cX7_whyNot 10 = .ok (.invokevirtual 172, 3) := by decide +kernel
theorem dX7_whyNot_13 : decode cX7_whyNot 13 = .ok (.lookupswitch 116 #[(98, 110), (108, 65), (109, 51), (115, 78), (116, 98)], 51) := by decide +kernel
theorem dX7_whyNot_64 : decode cX7_whyNot 64 = .ok (.aload_n 0, 1) := by decide +kernel
theorem dX7_whyNot_65 : decode cX7_whyNot 65 = .ok (.iload_n 2, 1) := by decide +kernel
theorem dX7_whyNot_66 : decode cX7_whyNot 66 = .ok (.ifCond .ge 7, 3) := by decide +kernel
theorem dX7_whyNot_69 : decode cX7_whyNot 69 = .ok (.iconst 0, 1) := by decide +kernel
theorem dX7_whyNot_70 : decode cX7_whyNot 70 = .ok (.goto 4, 3) := by decide +kernel
theorem dX7_whyNot_73 : decode cX7_whyNot 73 = .ok (.iload_n 2, 1) := by decide +kernel
theorem dX7_whyNot_74 : decode cX7_whyNot 74 = .ok (.invokevirtual 101, 3) := by decide +kernel
theorem dX7_whyNot_77 : decode cX7_whyNot 77 = .ok (.ireturn, 1) := by decide +kernel
theorem dX7_whyNot_78 : decode cX7_whyNot 78 = .ok (.aload_n 0, 1) := by decide +kernel
theorem dX7_whyNot_79 : decode cX7_whyNot 79 = .ok (.iload_n 2, 1) := by decide +kernel
theorem dX7_whyNot_80 : decode cX7_whyNot 80 = .ok (.aload_n 0, 1) := by decide +kernel
theorem dX7_whyNot_81 : decode cX7_whyNot 81 = .ok (.iload_n 1, 1) := by decide +kernel
theorem dX7_whyNot_82 : decode cX7_whyNot 82 = .ok (.iconst 3, 1) := by decide +kernel
theorem dX7_whyNot_83 : decode cX7_whyNot 83 = .ok (.iadd, 1) := by decide +kernel
theorem dX7_whyNot_84 : decode cX7_whyNot 84 = .ok (.invokevirtual 178, 3) := by decide +kernel
theorem dX7_whyNot_87 : decode cX7_whyNot 87 = .ok (.invokevirtual 107, 3) := by decide +kernel
theorem dX7_whyNot_90 : decode cX7_whyNot 90 = .ok (.ireturn, 1) := by decide +kernel
theorem dX7_whyNot_91 : decode cX7_whyNot 91 = .ok (.aload_n 0, 1) := by decide +kernel
theorem dX7_whyNot_92 : decode cX7_whyNot 92 = .ok (.aload_n 0, 1) := by decide +kernel
theorem dX7_whyNot_93 : decode cX7_whyNot 93 = .ok (.iload_n 1, 1) := by decide +kernel
theorem dX7_whyNot_94 : decode cX7_whyNot 94 = .ok (.iconst 1, 1) := by decide +kernel
theorem dX7_whyNot_95 : decode cX7_whyNot 95 = .ok (.iadd, 1) := by decide +kernel
theorem dX7_whyNot_96 : decode cX7_whyNot 96 = .ok (.invokevirtual 178, 3) := by decide +kernel
theorem dX7_whyNot_99 : decode cX7_whyNot 99 = .ok (.invokevirtual 113, 3) := by decide +kernel
theorem dX7_whyNot_102 : decode cX7_whyNot 102 = .ok (.ifCond .eq 7, 3) := by decide +kernel
theorem dX7_whyNot_105 : decode cX7_whyNot 105 = .ok (.iconst 0, 1) := by decide +kernel
theorem dX7_whyNot_106 : decode cX7_whyNot 106 = .ok (.goto 4, 3) := by decide +kernel
theorem dX7_whyNot_109 : decode cX7_whyNot 109 = .ok (.iconst (-1), 1) := by decide +kernel
theorem dX7_whyNot_110 : decode cX7_whyNot 110 = .ok (.ireturn, 1) := by decide +kernel
theorem dX7_whyNot_111 : decode cX7_whyNot 111 = .ok (.aload_n 0, 1) := by decide +kernel
theorem dX7_whyNot_112 : decode cX7_whyNot 112 = .ok (.aload_n 0, 1) := by decide +kernel
theorem dX7_whyNot_113 : decode cX7_whyNot 113 = .ok (.iload_n 1, 1) := by decide +kernel
theorem dX7_whyNot_114 : decode cX7_whyNot 114 = .ok (.iconst 1, 1) := by decide +kernel
theorem dX7_whyNot_115 : decode cX7_whyNot 115 = .ok (.iadd, 1) := by decide +kernel
theorem dX7_whyNot_116 : decode cX7_whyNot 116 = .ok (.invokevirtual 178, 3) := by decide +kernel
theorem dX7_whyNot_119 : decode cX7_whyNot 119 = .ok (.invokevirtual 129, 3) := by decide +kernel
theorem dX7_whyNot_122 : decode cX7_whyNot 122 = .ok (.ireturn, 1) := by decide +kernel
theorem dX7_whyNot_123 : decode cX7_whyNot 123 = .ok (.aload_n 0, 1) := by decide +kernel
theorem dX7_whyNot_124 : decode cX7_whyNot 124 = .ok (.iload_n 2, 1) := by decide +kernel
theorem dX7_whyNot_125 : decode cX7_whyNot 125 = .ok (.invokevirtual 119, 3) := by decide +kernel
theorem dX7_whyNot_128 : decode cX7_whyNot 128 = .ok (.ireturn, 1) := by decide +kernel
theorem dX7_whyNot_129 : decode cX7_whyNot 129 = .ok (.aload_n 0, 1) := by decide +kernel
theorem dX7_whyNot_130 : decode cX7_whyNot 130 = .ok (.iload_n 2, 1) := by decide +kernel
theorem dX7_whyNot_131 : decode cX7_whyNot 131 = .ok (.invokevirtual 95, 3) := by decide +kernel
theorem dX7_whyNot_134 : decode cX7_whyNot 134 = .ok (.ifCond .eq 7, 3) := by decide +kernel
theorem dX7_whyNot_137 : decode cX7_whyNot 137 = .ok (.iconst 0, 1) := by decide +kernel
theorem dX7_whyNot_138 : decode cX7_whyNot 138 = .ok (.goto 4, 3) := by decide +kernel
theorem dX7_whyNot_141 : decode cX7_whyNot 141 = .ok (.iconst (-1), 1) := by decide +kernel
theorem dX7_whyNot_142 : decode cX7_whyNot 142 = .ok (.ireturn, 1) := by decide +kernel
set_option maxRecDepth 20000 in
theorem ggX7_does_X7_digit : GoodIn wsX7_does wsX7_digit := goodIn_r _ [6, 7, 8, 9, 10, 5, 11, 86, 87, 88, 89, 90, 91, 92] (by decide +kernel) (by decide +kernel)
set_option maxRecDepth 20000 in
theorem gX7_does_X7_digit : GoodIn wsX7_does (wsV RX7 166 RX7 yX7_digit wsX7_digit) := goodIn_app (goodIn_of _ (by decide +kernel)) ggX7_does_X7_digit
set_option maxRecDepth 20000 in
theorem ggX7_does_X7_code : GoodIn wsX7_does wsX7_code := goodIn_r _ [15, 7, 8, 86, 87, 88, 89, 90, 91, 92] (by decide +kernel) (by decide +kernel)
set_option maxRecDepth 20000 in
theorem gX7_does_X7_code : GoodIn wsX7_does (wsV RX7 172 RX7 yX7_code wsX7_code) := goodIn_app (goodIn_of _ (by decide +kernel)) ggX7_does_X7_code
set_option maxRecDepth 20000 in
theorem ggX7_does_X7_comes : GoodIn wsX7_does wsX7_comes := goodIn_r _ [19, 1, 20, 21, 22, 23, 24, 5, 25, 26, 27, 28, 86, 87, 88, 89, 90, 91, 92] (by decide +kernel) (by decide +kernel)
set_option maxRecDepth 20000 in
theorem gX7_does_X7_comes : GoodIn wsX7_does (wsV RX7 104 RX7 yX7_comes wsX7_comes) := goodIn_app (goodIn_of _ (by decide +kernel)) ggX7_does_X7_comes
set_option maxRecDepth 20000 in
theorem ggX7_does_X7_numberAt : GoodIn wsX7_does wsX7_numberAt := goodIn_r _ [32, 33, 34, 35, 5, 36, 2, 3, 4, 6, 7, 8, 9, 10, 11, 86, 87, 88, 89, 90, 91, 92] (by decide +kernel) (by decide +kernel)
set_option maxRecDepth 20000 in
theorem gX7_does_X7_numberAt : GoodIn wsX7_does (wsV RX7 178 RX7 yX7_numberAt wsX7_numberAt) := goodIn_app (goodIn_of _ (by decide +kernel)) ggX7_does_X7_numberAt
set_option maxRecDepth 20000 in
theorem ggX7_does_X7_loads : GoodIn wsX7_does wsX7_loads := goodIn_r _ [40, 1, 22, 23, 24, 5, 25, 86, 87, 88, 89, 90, 91, 92] (by decide +kernel) (by decide +kernel)
set_option maxRecDepth 20000 in
theorem gX7_does_X7_loads : GoodIn wsX7_does (wsV RX7 110 RX7 yX7_loads wsX7_loads) := goodIn_app (goodIn_of _ (by decide +kernel)) ggX7_does_X7_loads
set_option maxRecDepth 20000 in
theorem ggX7_does_X7_turns : GoodIn wsX7_does wsX7_turns := goodIn_r _ [44, 1, 22, 23, 24, 5, 25, 86, 87, 88, 89, 90, 91, 92] (by decide +kernel) (by decide +kernel)
set_option maxRecDepth 20000 in
theorem gX7_does_X7_turns : GoodIn wsX7_does (wsV RX7 116 RX7 yX7_turns wsX7_turns) := goodIn_app (goodIn_of _ (by decide +kernel)) ggX7_does_X7_turns
set_option maxRecDepth 20000 in
theorem ggX7_does_X7_passes : GoodIn wsX7_does wsX7_passes := goodIn_r _ [48, 1, 22, 23, 24, 5, 25, 49, 50, 51, 52, 53, 54, 26, 27, 28, 55, 56, 57, 58, 59, 60, 61, 62, 63, 64, 65, 66, 67, 68, 69, 70, 21, 71, 72, 73, 74, 75, 76, 77, 86, 87, 88, 89, 90, 91, 92] (by decide +kernel) (by decide +kernel)
set_option maxRecDepth 20000 in
theorem gX7_does_X7_passes : GoodIn wsX7_does (wsV RX7 132 RX7 yX7_passes wsX7_passes) := goodIn_app (goodIn_of _ (by decide +kernel)) ggX7_does_X7_passes
set_option maxRecDepth 20000 in
theorem ggX7_does_X7_at : GoodIn wsX7_does wsX7_at := goodIn_r _ [28] (by decide +kernel) (by decide +kernel)
set_option maxRecDepth 20000 in
theorem gX7_does_X7_at : GoodIn wsX7_does (va_wsS RX7 45 yX7_at wsX7_at) := goodIn_app (goodIn_of _ (by decide +kernel)) ggX7_does_X7_at
set_option maxRecDepth 20000 in
theorem ggX7_does_X7_visits : GoodIn wsX7_does wsX7_visits := goodIn_r _ [81, 1, 21, 26, 27, 5, 28, 82, 83, 84, 85, 86, 87, 88, 89, 90, 91, 92] (by decide +kernel) (by decide +kernel)
set_option maxRecDepth 20000 in
theorem gX7_does_X7_visits : GoodIn wsX7_does (wsV RX7 125 RX7 yX7_visits wsX7_visits) := goodIn_app (goodIn_of _ (by decide +kernel)) ggX7_does_X7_visits
theorem dX7_does_0 : decode cX7_does 0 = .ok (.aload_n 0, 1) := by decide +kernel
theorem dX7_does_1 : decode cX7_does 1 = .ok (.iload_n 1, 1) := by decide +kernel
theorem dX7_does_2 : decode cX7_does 2 = .ok (.iconst 1, 1) := by decide +kernel
theorem dX7_does_3 : decode cX7_does 3 = .ok (.iadd, 1) := by decide +kernel
theorem dX7_does_4 : decode cX7_does 4 = .ok (.invokevirtual 166, 3) := by decide +kernel
theorem dX7_does_7 : decode cX7_does 7 = .ok (.istore_n 2, 1) := by decide +kernel
theorem dX7_does_8 : decode cX7_does 8 = .ok (.aload_n 0, 1) := by decide +kernel
theorem dX7_does_9 : decode cX7_does 9 = .ok (.iload_n 1, 1) := by decide +kernel
theorem dX7_does_10 : decode cX7_does 10 = .ok (.invokevirtual 172, 3) := by decide +kernel
theorem dX7_does_13 : decode cX7_does 13 = .ok (.lookupswitch 119 #[(98, 103), (108, 65), (109, 51), (115, 78), (116, 90)], 51) := by decide +kernel
theorem dX7_does_64 : decode cX7_does 64 = .ok (.aload_n 0, 1) := by decide +kernel
theorem dX7_does_65 : decode cX7_does 65 = .ok (.iload_n 2, 1) := by decide +kernel
theorem dX7_does_66 : decode cX7_does 66 = .ok (.ifCond .ge 7, 3) := by decide +kernel
theorem dX7_does_69 : decode cX7_does 69 = .ok (.iconst 0, 1) := by decide +kernel
theorem dX7_does_70 : decode cX7_does 70 = .ok (.goto 4, 3) := by decide +kernel
theorem dX7_does_73 : decode cX7_does 73 = .ok (.iload_n 2, 1) := by decide +kernel
theorem dX7_does_74 : decode cX7_does 74 = .ok (.invokevirtual 104, 3) := by decide +kernel
theorem dX7_does_77 : decode cX7_does 77 = .ok (.ireturn, 1) := by decide +kernel
theorem dX7_does_78 : decode cX7_does 78 = .ok (.aload_n 0, 1) := by decide +kernel
theorem dX7_does_79 : decode cX7_does 79 = .ok (.iload_n 2, 1) := by decide +kernel
theorem dX7_does_80 : decode cX7_does 80 = .ok (.aload_n 0, 1) := by decide +kernel
theorem dX7_does_81 : decode cX7_does 81 = .ok (.iload_n 1, 1) := by decide +kernel
theorem dX7_does_82 : decode cX7_does 82 = .ok (.iconst 3, 1) := by decide +kernel
theorem dX7_does_83 : decode cX7_does 83 = .ok (.iadd, 1) := by decide +kernel
theorem dX7_does_84 : decode cX7_does 84 = .ok (.invokevirtual 178, 3) := by decide +kernel
theorem dX7_does_87 : decode cX7_does 87 = .ok (.invokevirtual 110, 3) := by decide +kernel
theorem dX7_does_90 : decode cX7_does 90 = .ok (.ireturn, 1) := by decide +kernel
theorem dX7_does_91 : decode cX7_does 91 = .ok (.aload_n 0, 1) := by decide +kernel
theorem dX7_does_92 : decode cX7_does 92 = .ok (.aload_n 0, 1) := by decide +kernel
theorem dX7_does_93 : decode cX7_does 93 = .ok (.iload_n 1, 1) := by decide +kernel
theorem dX7_does_94 : decode cX7_does 94 = .ok (.iconst 1, 1) := by decide +kernel
theorem dX7_does_95 : decode cX7_does 95 = .ok (.iadd, 1) := by decide +kernel
theorem dX7_does_96 : decode cX7_does 96 = .ok (.invokevirtual 178, 3) := by decide +kernel
theorem dX7_does_99 : decode cX7_does 99 = .ok (.invokevirtual 116, 3) := by decide +kernel
theorem dX7_does_102 : decode cX7_does 102 = .ok (.ireturn, 1) := by decide +kernel
theorem dX7_does_103 : decode cX7_does 103 = .ok (.aload_n 0, 1) := by decide +kernel
theorem dX7_does_104 : decode cX7_does 104 = .ok (.iconst 0, 1) := by decide +kernel
theorem dX7_does_105 : decode cX7_does 105 = .ok (.aload_n 0, 1) := by decide +kernel
theorem dX7_does_106 : decode cX7_does 106 = .ok (.iload_n 1, 1) := by decide +kernel
theorem dX7_does_107 : decode cX7_does 107 = .ok (.iconst 1, 1) := by decide +kernel
theorem dX7_does_108 : decode cX7_does 108 = .ok (.iadd, 1) := by decide +kernel
theorem dX7_does_109 : decode cX7_does 109 = .ok (.invokevirtual 178, 3) := by decide +kernel
theorem dX7_does_112 : decode cX7_does 112 = .ok (.invokevirtual 132, 3) := by decide +kernel
theorem dX7_does_115 : decode cX7_does 115 = .ok (.ireturn, 1) := by decide +kernel
theorem dX7_does_116 : decode cX7_does 116 = .ok (.aload_n 0, 1) := by decide +kernel
theorem dX7_does_117 : decode cX7_does 117 = .ok (.getfield 7, 3) := by decide +kernel
theorem dX7_does_120 : decode cX7_does 120 = .ok (.iconst 0, 1) := by decide +kernel
theorem dX7_does_121 : decode cX7_does 121 = .ok (.iload_n 2, 1) := by decide +kernel
theorem dX7_does_122 : decode cX7_does 122 = .ok (.invokestatic 45, 3) := by decide +kernel
theorem dX7_does_125 : decode cX7_does 125 = .ok (.bipush 7, 2) := by decide +kernel
theorem dX7_does_127 : decode cX7_does 127 = .ok (.iadd, 1) := by decide +kernel
theorem dX7_does_128 : decode cX7_does 128 = .ok (.lconst 1, 1) := by decide +kernel
theorem dX7_does_129 : decode cX7_does 129 = .ok (.lastore, 1) := by decide +kernel
theorem dX7_does_130 : decode cX7_does 130 = .ok (.iload_n 2, 1) := by decide +kernel
theorem dX7_does_131 : decode cX7_does 131 = .ok (.ireturn, 1) := by decide +kernel
theorem dX7_does_132 : decode cX7_does 132 = .ok (.aload_n 0, 1) := by decide +kernel
theorem dX7_does_133 : decode cX7_does 133 = .ok (.iload_n 2, 1) := by decide +kernel
theorem dX7_does_134 : decode cX7_does 134 = .ok (.invokevirtual 125, 3) := by decide +kernel
theorem dX7_does_137 : decode cX7_does 137 = .ok (.ireturn, 1) := by decide +kernel
set_option maxRecDepth 20000 in
theorem ggX7_carryOut_X7_fault : GoodIn wsX7_carryOut wsX7_fault := goodIn_r _ [6, 1, 7, 8, 9, 5, 10, 11, 12, 13, 14, 15, 16, 17, 18, 19, 20, 21, 22, 23, 24, 25, 26, 133, 134, 135, 136, 137, 138, 139] (by decide +kernel) (by decide +kernel)
set_option maxRecDepth 20000 in
theorem gX7_carryOut_X7_fault : GoodIn wsX7_carryOut (wsV RX7 181 RX7 yX7_fault wsX7_fault) := goodIn_app (goodIn_of _ (by decide +kernel)) ggX7_carryOut_X7_fault
set_option maxRecDepth 20000 in
theorem ggX7_carryOut_X7_remembers : GoodIn wsX7_carryOut wsX7_remembers := goodIn_r _ [30, 31, 32, 33, 133, 134, 135, 136, 137, 138, 139] (by decide +kernel) (by decide +kernel)
set_option maxRecDepth 20000 in
theorem gX7_carryOut_X7_remembers : GoodIn wsX7_carryOut (wsV RX7 92 RX7 yX7_remembers wsX7_remembers) := goodIn_app (goodIn_of _ (by decide +kernel)) ggX7_carryOut_X7_remembers
set_option maxRecDepth 20000 in
theorem ggX7_carryOut_X7_whyNot : GoodIn wsX7_carryOut wsX7_whyNot := goodIn_r _ [37, 16, 17, 18, 5, 19, 1, 15, 20, 21, 22, 11, 12, 13, 14, 38, 39, 40, 41, 42, 43, 44, 45, 33, 46, 47, 48, 49, 50, 51, 52, 53, 23, 24, 25, 26, 54, 55, 56, 57, 58, 59, 60, 61, 62, 63, 64, 65, 66, 67, 68, 69, 70, 71, 72, 73, 74, 75, 76, 77, 133, 134, 135, 136, 137, 138, 139] (by decide +kernel) (by decide +kernel)
set_option maxRecDepth 20000 in
theorem gX7_carryOut_X7_whyNot : GoodIn wsX7_carryOut (wsV RX7 185 RX7 yX7_whyNot wsX7_whyNot) := goodIn_app (goodIn_of _ (by decide +kernel)) ggX7_carryOut_X7_whyNot
set_option maxRecDepth 20000 in
theorem ggX7_carryOut_X7_does : GoodIn wsX7_carryOut wsX7_does := goodIn_r _ [81, 33, 16, 17, 18, 5, 19, 1, 15, 20, 21, 22, 11, 12, 13, 14, 82, 83, 84, 85, 86, 87, 42, 43, 44, 45, 75, 76, 77, 50, 51, 52, 53, 23, 24, 25, 26, 88, 89, 90, 91, 92, 93, 94, 95, 96, 97, 98, 99, 100, 101, 102, 103, 104, 105, 106, 107, 108, 109, 110, 111, 112, 113, 71, 72, 73, 74, 114, 115, 116, 117, 118, 119, 120, 121, 122, 123, 124, 125, 126, 127, 128, 129, 130, 131, 132, 133, 134, 135, 136, 137, 138, 139] (by decide +kernel) (by decide +kernel)
set_option maxRecDepth 20000 in
theorem gX7_carryOut_X7_does : GoodIn wsX7_carryOut (wsV RX7 188 RX7 yX7_does wsX7_does) := goodIn_app (goodIn_of _ (by decide +kernel)) ggX7_carryOut_X7_does
set_option maxRecDepth 20000 in
theorem ggX7_carryOut_X7_orderEnd : GoodIn wsX7_carryOut wsX7_orderEnd := goodIn_r _ [10, 11, 12, 13, 5, 14, 1, 15, 16, 17, 18, 19, 20, 21, 22, 23, 24, 25, 26, 133, 134, 135, 136, 137, 138, 139] (by decide +kernel) (by decide +kernel)
set_option maxRecDepth 20000 in
theorem gX7_carryOut_X7_orderEnd : GoodIn wsX7_carryOut (wsV RX7 175 RX7 yX7_orderEnd wsX7_orderEnd) := goodIn_app (goodIn_of _ (by decide +kernel)) ggX7_carryOut_X7_orderEnd
theorem dX7_carryOut_0 : decode cX7_carryOut 0 = .ok (.aload_n 0, 1) := by decide +kernel
theorem dX7_carryOut_1 : decode cX7_carryOut 1 = .ok (.invokevirtual 181, 3) := by decide +kernel
theorem dX7_carryOut_4 : decode cX7_carryOut 4 = .ok (.bipush (-6), 2) := by decide +kernel
theorem dX7_carryOut_6 : decode cX7_carryOut 6 = .ok (.if_icmp .eq 6, 3) := by decide +kernel
theorem dX7_carryOut_9 : decode cX7_carryOut 9 = .ok (.bipush (-3), 2) := by decide +kernel
theorem dX7_carryOut_11 : decode cX7_carryOut 11 = .ok (.ireturn, 1) := by decide +kernel
theorem dX7_carryOut_12 : decode cX7_carryOut 12 = .ok (.aload_n 0, 1) := by decide +kernel
theorem dX7_carryOut_13 : decode cX7_carryOut 13 = .ok (.invokevirtual 92, 3) := by decide +kernel
theorem dX7_carryOut_16 : decode cX7_carryOut 16 = .ok (.iconst 0, 1) := by decide +kernel
theorem dX7_carryOut_17 : decode cX7_carryOut 17 = .ok (.istore_n 1, 1) := by decide +kernel
theorem dX7_carryOut_18 : decode cX7_carryOut 18 = .ok (.iconst 0, 1) := by decide +kernel
theorem dX7_carryOut_19 : decode cX7_carryOut 19 = .ok (.istore_n 2, 1) := by decide +kernel
theorem dX7_carryOut_20 : decode cX7_carryOut 20 = .ok (.iload_n 2, 1) := by decide +kernel
theorem dX7_carryOut_21 : decode cX7_carryOut 21 = .ok (.aload_n 0, 1) := by decide +kernel
theorem dX7_carryOut_22 : decode cX7_carryOut 22 = .ok (.getfield 135, 3) := by decide +kernel
theorem dX7_carryOut_25 : decode cX7_carryOut 25 = .ok (.if_icmp .ge 31, 3) := by decide +kernel
theorem dX7_carryOut_28 : decode cX7_carryOut 28 = .ok (.aload_n 0, 1) := by decide +kernel
theorem dX7_carryOut_29 : decode cX7_carryOut 29 = .ok (.iload_n 2, 1) := by decide +kernel
theorem dX7_carryOut_30 : decode cX7_carryOut 30 = .ok (.invokevirtual 185, 3) := by decide +kernel
theorem dX7_carryOut_33 : decode cX7_carryOut 33 = .ok (.ifCond .ne 23, 3) := by decide +kernel
theorem dX7_carryOut_36 : decode cX7_carryOut 36 = .ok (.aload_n 0, 1) := by decide +kernel
theorem dX7_carryOut_37 : decode cX7_carryOut 37 = .ok (.iload_n 2, 1) := by decide +kernel
theorem dX7_carryOut_38 : decode cX7_carryOut 38 = .ok (.invokevirtual 188, 3) := by decide +kernel
theorem dX7_carryOut_41 : decode cX7_carryOut 41 = .ok (.istore_n 3, 1) := by decide +kernel
theorem dX7_carryOut_42 : decode cX7_carryOut 42 = .ok (.iinc 1 1, 3) := by decide +kernel
theorem dX7_carryOut_45 : decode cX7_carryOut 45 = .ok (.aload_n 0, 1) := by decide +kernel
theorem dX7_carryOut_46 : decode cX7_carryOut 46 = .ok (.iload_n 2, 1) := by decide +kernel
theorem dX7_carryOut_47 : decode cX7_carryOut 47 = .ok (.invokevirtual 175, 3) := by decide +kernel
theorem dX7_carryOut_50 : decode cX7_carryOut 50 = .ok (.iconst 1, 1) := by decide +kernel
theorem dX7_carryOut_51 : decode cX7_carryOut 51 = .ok (.iadd, 1) := by decide +kernel
theorem dX7_carryOut_52 : decode cX7_carryOut 52 = .ok (.istore_n 2, 1) := by decide +kernel
theorem dX7_carryOut_53 : decode cX7_carryOut 53 = .ok (.goto (-33), 3) := by decide +kernel
theorem dX7_carryOut_56 : decode cX7_carryOut 56 = .ok (.aload_n 0, 1) := by decide +kernel
theorem dX7_carryOut_57 : decode cX7_carryOut 57 = .ok (.iconst 0, 1) := by decide +kernel
theorem dX7_carryOut_58 : decode cX7_carryOut 58 = .ok (.putfield 135, 3) := by decide +kernel
theorem dX7_carryOut_61 : decode cX7_carryOut 61 = .ok (.iload_n 1, 1) := by decide +kernel
theorem dX7_carryOut_62 : decode cX7_carryOut 62 = .ok (.ireturn, 1) := by decide +kernel
theorem dX7_undo_0 : decode cX7_undo 0 = .ok (.aload_n 0, 1) := by decide +kernel
theorem dX7_undo_1 : decode cX7_undo 1 = .ok (.getfield 49, 3) := by decide +kernel
theorem dX7_undo_4 : decode cX7_undo 4 = .ok (.ifCond .ne 6, 3) := by decide +kernel
theorem dX7_undo_7 : decode cX7_undo 7 = .ok (.bipush (-5), 2) := by decide +kernel
theorem dX7_undo_9 : decode cX7_undo 9 = .ok (.ireturn, 1) := by decide +kernel
theorem dX7_undo_10 : decode cX7_undo 10 = .ok (.aload_n 0, 1) := by decide +kernel
theorem dX7_undo_11 : decode cX7_undo 11 = .ok (.dup, 1) := by decide +kernel
theorem dX7_undo_12 : decode cX7_undo 12 = .ok (.getfield 49, 3) := by decide +kernel
theorem dX7_undo_15 : decode cX7_undo 15 = .ok (.iconst 1, 1) := by decide +kernel
theorem dX7_undo_16 : decode cX7_undo 16 = .ok (.isub, 1) := by decide +kernel
theorem dX7_undo_17 : decode cX7_undo 17 = .ok (.putfield 49, 3) := by decide +kernel
theorem dX7_undo_20 : decode cX7_undo 20 = .ok (.iconst 0, 1) := by decide +kernel
theorem dX7_undo_21 : decode cX7_undo 21 = .ok (.istore_n 1, 1) := by decide +kernel
theorem dX7_undo_22 : decode cX7_undo 22 = .ok (.iload_n 1, 1) := by decide +kernel
theorem dX7_undo_23 : decode cX7_undo 23 = .ok (.sipush 138, 3) := by decide +kernel
theorem dX7_undo_26 : decode cX7_undo 26 = .ok (.if_icmp .ge 30, 3) := by decide +kernel
theorem dX7_undo_29 : decode cX7_undo 29 = .ok (.aload_n 0, 1) := by decide +kernel
theorem dX7_undo_30 : decode cX7_undo 30 = .ok (.getfield 7, 3) := by decide +kernel
theorem dX7_undo_33 : decode cX7_undo 33 = .ok (.iload_n 1, 1) := by decide +kernel
theorem dX7_undo_34 : decode cX7_undo 34 = .ok (.aload_n 0, 1) := by decide +kernel
theorem dX7_undo_35 : decode cX7_undo 35 = .ok (.getfield 13, 3) := by decide +kernel
theorem dX7_undo_38 : decode cX7_undo 38 = .ok (.sipush 138, 3) := by decide +kernel
theorem dX7_undo_41 : decode cX7_undo 41 = .ok (.aload_n 0, 1) := by decide +kernel
theorem dX7_undo_42 : decode cX7_undo 42 = .ok (.getfield 49, 3) := by decide +kernel
theorem dX7_undo_45 : decode cX7_undo 45 = .ok (.imul, 1) := by decide +kernel
theorem dX7_undo_46 : decode cX7_undo 46 = .ok (.iload_n 1, 1) := by decide +kernel
theorem dX7_undo_47 : decode cX7_undo 47 = .ok (.iadd, 1) := by decide +kernel
theorem dX7_undo_48 : decode cX7_undo 48 = .ok (.laload, 1) := by decide +kernel
theorem dX7_undo_49 : decode cX7_undo 49 = .ok (.lastore, 1) := by decide +kernel
theorem dX7_undo_50 : decode cX7_undo 50 = .ok (.iinc 1 1, 3) := by decide +kernel
theorem dX7_undo_53 : decode cX7_undo 53 = .ok (.goto (-31), 3) := by decide +kernel
theorem dX7_undo_56 : decode cX7_undo 56 = .ok (.aload_n 0, 1) := by decide +kernel
theorem dX7_undo_57 : decode cX7_undo 57 = .ok (.getfield 49, 3) := by decide +kernel
theorem dX7_undo_60 : decode cX7_undo 60 = .ok (.ireturn, 1) := by decide +kernel
set_option maxRecDepth 20000 in
theorem ggX7_save_X7_in : GoodIn wsX7_save wsX7_in := goodIn_r _ [7] (by decide +kernel) (by decide +kernel)
set_option maxRecDepth 20000 in
theorem gX7_save_X7_in : GoodIn wsX7_save (va_wsS RX7 41 yX7_in wsX7_in) := goodIn_app (goodIn_of _ (by decide +kernel)) ggX7_save_X7_in
set_option maxRecDepth 20000 in
theorem ggX7_save_X7_num : GoodIn wsX7_save wsX7_num := goodIn_r _ [11, 2, 12, 13, 14, 15, 16, 17, 18] (by decide +kernel) (by decide +kernel)
set_option maxRecDepth 20000 in
theorem gX7_save_X7_num : GoodIn wsX7_save (wsV RX7 37 RX7 yX7_num wsX7_num) := goodIn_app (goodIn_of _ (by decide +kernel)) ggX7_save_X7_num
theorem dX7_save_0 : decode cX7_save 0 = .ok (.iload_n 1, 1) := by decide +kernel
theorem dX7_save_1 : decode cX7_save 1 = .ok (.iconst 0, 1) := by decide +kernel
theorem dX7_save_2 : decode cX7_save 2 = .ok (.iconst 1, 1) := by decide +kernel
theorem dX7_save_3 : decode cX7_save 3 = .ok (.invokestatic 41, 3) := by decide +kernel
theorem dX7_save_6 : decode cX7_save 6 = .ok (.ifCond .ne 6, 3) := by decide +kernel
theorem dX7_save_9 : decode cX7_save 9 = .ok (.bipush (-2), 2) := by decide +kernel
theorem dX7_save_11 : decode cX7_save 11 = .ok (.ireturn, 1) := by decide +kernel
theorem dX7_save_12 : decode cX7_save 12 = .ok (.iconst 0, 1) := by decide +kernel
theorem dX7_save_13 : decode cX7_save 13 = .ok (.istore_n 2, 1) := by decide +kernel
theorem dX7_save_14 : decode cX7_save 14 = .ok (.iload_n 2, 1) := by decide +kernel
theorem dX7_save_15 : decode cX7_save 15 = .ok (.sipush 138, 3) := by decide +kernel
theorem dX7_save_18 : decode cX7_save 18 = .ok (.if_icmp .ge 27, 3) := by decide +kernel
theorem dX7_save_21 : decode cX7_save 21 = .ok (.aload_n 0, 1) := by decide +kernel
theorem dX7_save_22 : decode cX7_save 22 = .ok (.getfield 16, 3) := by decide +kernel
theorem dX7_save_25 : decode cX7_save 25 = .ok (.sipush 138, 3) := by decide +kernel
theorem dX7_save_28 : decode cX7_save 28 = .ok (.iload_n 1, 1) := by decide +kernel
theorem dX7_save_29 : decode cX7_save 29 = .ok (.imul, 1) := by decide +kernel
theorem dX7_save_30 : decode cX7_save 30 = .ok (.iload_n 2, 1) := by decide +kernel
theorem dX7_save_31 : decode cX7_save 31 = .ok (.iadd, 1) := by decide +kernel
theorem dX7_save_32 : decode cX7_save 32 = .ok (.aload_n 0, 1) := by decide +kernel
theorem dX7_save_33 : decode cX7_save 33 = .ok (.getfield 7, 3) := by decide +kernel
theorem dX7_save_36 : decode cX7_save 36 = .ok (.iload_n 2, 1) := by decide +kernel
theorem dX7_save_37 : decode cX7_save 37 = .ok (.laload, 1) := by decide +kernel
theorem dX7_save_38 : decode cX7_save 38 = .ok (.lastore, 1) := by decide +kernel
theorem dX7_save_39 : decode cX7_save 39 = .ok (.iinc 2 1, 3) := by decide +kernel
theorem dX7_save_42 : decode cX7_save 42 = .ok (.goto (-28), 3) := by decide +kernel
theorem dX7_save_45 : decode cX7_save 45 = .ok (.aload_n 0, 1) := by decide +kernel
theorem dX7_save_46 : decode cX7_save 46 = .ok (.getfield 19, 3) := by decide +kernel
theorem dX7_save_49 : decode cX7_save 49 = .ok (.iload_n 1, 1) := by decide +kernel
theorem dX7_save_50 : decode cX7_save 50 = .ok (.iconst 1, 1) := by decide +kernel
theorem dX7_save_51 : decode cX7_save 51 = .ok (.bastore, 1) := by decide +kernel
theorem dX7_save_52 : decode cX7_save 52 = .ok (.aload_n 0, 1) := by decide +kernel
theorem dX7_save_53 : decode cX7_save 53 = .ok (.bipush 7, 2) := by decide +kernel
theorem dX7_save_55 : decode cX7_save 55 = .ok (.invokevirtual 37, 3) := by decide +kernel
theorem dX7_save_58 : decode cX7_save 58 = .ok (.ireturn, 1) := by decide +kernel
set_option maxRecDepth 20000 in
theorem ggX7_restore_X7_in : GoodIn wsX7_restore wsX7_in := goodIn_r _ [7] (by decide +kernel) (by decide +kernel)
set_option maxRecDepth 20000 in
theorem gX7_restore_X7_in : GoodIn wsX7_restore (va_wsS RX7 41 yX7_in wsX7_in) := goodIn_app (goodIn_of _ (by decide +kernel)) ggX7_restore_X7_in
set_option maxRecDepth 20000 in
theorem ggX7_restore_X7_remembers : GoodIn wsX7_restore wsX7_remembers := goodIn_r _ [11, 12, 13, 2, 18, 19, 20, 21, 22, 23, 24] (by decide +kernel) (by decide +kernel)
set_option maxRecDepth 20000 in
theorem gX7_restore_X7_remembers : GoodIn wsX7_restore (wsV RX7 92 RX7 yX7_remembers wsX7_remembers) := goodIn_app (goodIn_of _ (by decide +kernel)) ggX7_restore_X7_remembers
set_option maxRecDepth 20000 in
theorem ggX7_restore_X7_num : GoodIn wsX7_restore wsX7_num := goodIn_r _ [17, 2, 18, 19, 20, 21, 22, 23, 24] (by decide +kernel) (by decide +kernel)
set_option maxRecDepth 20000 in
theorem gX7_restore_X7_num : GoodIn wsX7_restore (wsV RX7 37 RX7 yX7_num wsX7_num) := goodIn_app (goodIn_of _ (by decide +kernel)) ggX7_restore_X7_num
theorem dX7_restore_0 : decode cX7_restore 0 = .ok (.iload_n 1, 1) := by decide +kernel
theorem dX7_restore_1 : decode cX7_restore 1 = .ok (.iconst 0, 1) := by decide +kernel
theorem dX7_restore_2 : decode cX7_restore 2 = .ok (.iconst 1, 1) := by decide +kernel
theorem dX7_restore_3 : decode cX7_restore 3 = .ok (.invokestatic 41, 3) := by decide +kernel
theorem dX7_restore_6 : decode cX7_restore 6 = .ok (.ifCond .ne 6, 3) := by decide +kernel
theorem dX7_restore_9 : decode cX7_restore 9 = .ok (.bipush (-2), 2) := by decide +kernel
theorem dX7_restore_11 : decode cX7_restore 11 = .ok (.ireturn, 1) := by decide +kernel
theorem dX7_restore_12 : decode cX7_restore 12 = .ok (.aload_n 0, 1) := by decide +kernel
theorem dX7_restore_13 : decode cX7_restore 13 = .ok (.getfield 19, 3) := by decide +kernel
theorem dX7_restore_16 : decode cX7_restore 16 = .ok (.iload_n 1, 1) := by decide +kernel
theorem dX7_restore_17 : decode cX7_restore 17 = .ok (.baload, 1) := by decide +kernel
theorem dX7_restore_18 : decode cX7_restore 18 = .ok (.ifCond .ne 6, 3) := by decide +kernel
theorem dX7_restore_21 : decode cX7_restore 21 = .ok (.bipush (-5), 2) := by decide +kernel
theorem dX7_restore_23 : decode cX7_restore 23 = .ok (.ireturn, 1) := by decide +kernel
theorem dX7_restore_24 : decode cX7_restore 24 = .ok (.aload_n 0, 1) := by decide +kernel
theorem dX7_restore_25 : decode cX7_restore 25 = .ok (.invokevirtual 92, 3) := by decide +kernel
theorem dX7_restore_28 : decode cX7_restore 28 = .ok (.iconst 0, 1) := by decide +kernel
theorem dX7_restore_29 : decode cX7_restore 29 = .ok (.istore_n 2, 1) := by decide +kernel
theorem dX7_restore_30 : decode cX7_restore 30 = .ok (.iload_n 2, 1) := by decide +kernel
theorem dX7_restore_31 : decode cX7_restore 31 = .ok (.sipush 138, 3) := by decide +kernel
theorem dX7_restore_34 : decode cX7_restore 34 = .ok (.if_icmp .ge 27, 3) := by decide +kernel
theorem dX7_restore_37 : decode cX7_restore 37 = .ok (.aload_n 0, 1) := by decide +kernel
theorem dX7_restore_38 : decode cX7_restore 38 = .ok (.getfield 7, 3) := by decide +kernel
theorem dX7_restore_41 : decode cX7_restore 41 = .ok (.iload_n 2, 1) := by decide +kernel
theorem dX7_restore_42 : decode cX7_restore 42 = .ok (.aload_n 0, 1) := by decide +kernel
theorem dX7_restore_43 : decode cX7_restore 43 = .ok (.getfield 16, 3) := by decide +kernel
theorem dX7_restore_46 : decode cX7_restore 46 = .ok (.sipush 138, 3) := by decide +kernel
theorem dX7_restore_49 : decode cX7_restore 49 = .ok (.iload_n 1, 1) := by decide +kernel
theorem dX7_restore_50 : decode cX7_restore 50 = .ok (.imul, 1) := by decide +kernel
theorem dX7_restore_51 : decode cX7_restore 51 = .ok (.iload_n 2, 1) := by decide +kernel
theorem dX7_restore_52 : decode cX7_restore 52 = .ok (.iadd, 1) := by decide +kernel
theorem dX7_restore_53 : decode cX7_restore 53 = .ok (.laload, 1) := by decide +kernel
theorem dX7_restore_54 : decode cX7_restore 54 = .ok (.lastore, 1) := by decide +kernel
theorem dX7_restore_55 : decode cX7_restore 55 = .ok (.iinc 2 1, 3) := by decide +kernel
theorem dX7_restore_58 : decode cX7_restore 58 = .ok (.goto (-28), 3) := by decide +kernel
theorem dX7_restore_61 : decode cX7_restore 61 = .ok (.aload_n 0, 1) := by decide +kernel
theorem dX7_restore_62 : decode cX7_restore 62 = .ok (.bipush 7, 2) := by decide +kernel
theorem dX7_restore_64 : decode cX7_restore 64 = .ok (.invokevirtual 37, 3) := by decide +kernel
theorem dX7_restore_67 : decode cX7_restore 67 = .ok (.ireturn, 1) := by decide +kernel
end
section
/-! numbers: an int of the machine is zI of an Int, a long zL of one -/
def zI (x : Int) : Int32 := Int32.ofInt x
def zL (x : Int) : Int64 := Int64.ofInt x
theorem zI_def (x : Int) : Int32.ofInt x = zI x := rfl
theorem zI_add (a b : Int) : zI a + zI b = zI (a + b) := (Int32.ofInt_add a b).symm
theorem zI_sub (a b : Int) : zI a - zI b = zI (a - b) := (Int32.ofInt_sub a b).symm
theorem zI_mul (a b : Int) : zI a * zI b = zI (a * b) := (Int32.ofInt_mul a b).symm
theorem zL_add (a b : Int) : zL a + zL b = zL (a + b) := (Int64.ofInt_add a b).symm
theorem zL_sub (a b : Int) : zL a - zL b = zL (a - b) := (Int64.ofInt_sub a b).symm
theorem zL_mul (a b : Int) : zL a * zL b = zL (a * b) := (Int64.ofInt_mul a b).symm
theorem zI_toInt {x : Int} (h : -2147483648 ≤ x ∧ x < 2147483648) : (zI x).toInt = x := Int32.toInt_ofInt_of_le (by omega) (by omega)
theorem zL_toInt {x : Int} (h : -9223372036854775808 ≤ x ∧ x < 9223372036854775808) : (zL x).toInt = x := Int64.toInt_ofInt_of_le (by omega) (by omega)
theorem zI_of (v : Int32) : zI v.toInt = v := Int32.ofInt_toInt v
theorem zL_of (v : Int64) : zL v.toInt = v := Int64.ofInt_toInt v
theorem zI_rng (v : Int32) : -2147483648 ≤ v.toInt ∧ v.toInt < 2147483648 := ⟨by have := Int32.le_toInt v; omega, by have := Int32.toInt_lt v; omega⟩
theorem zL_rng (v : Int64) : -9223372036854775808 ≤ v.toInt ∧ v.toInt < 9223372036854775808 := ⟨by have := Int64.le_toInt v; omega, by have := Int64.toInt_lt v; omega⟩
theorem zI_eq {x y : Int} (hx : -2147483648 ≤ x ∧ x < 2147483648) (hy : -2147483648 ≤ y ∧ y < 2147483648) : zI x = zI y ↔ x = y := by
  rw [← Int32.toInt_inj, zI_toInt hx, zI_toInt hy]
theorem zI_lt {x y : Int} (hx : -2147483648 ≤ x ∧ x < 2147483648) (hy : -2147483648 ≤ y ∧ y < 2147483648) : zI x < zI y ↔ x < y := by
  rw [Int32.lt_iff_toInt_lt, zI_toInt hx, zI_toInt hy]
theorem zI_le {x y : Int} (hx : -2147483648 ≤ x ∧ x < 2147483648) (hy : -2147483648 ≤ y ∧ y < 2147483648) : zI x ≤ zI y ↔ x ≤ y := by
  rw [Int32.le_iff_toInt_le, zI_toInt hx, zI_toInt hy]
theorem zL_eq {x y : Int} (hx : -9223372036854775808 ≤ x ∧ x < 9223372036854775808) (hy : -9223372036854775808 ≤ y ∧ y < 9223372036854775808) : zL x = zL y ↔ x = y := by
  rw [← Int64.toInt_inj, zL_toInt hx, zL_toInt hy]
theorem zL_lt {x y : Int} (hx : -9223372036854775808 ≤ x ∧ x < 9223372036854775808) (hy : -9223372036854775808 ≤ y ∧ y < 9223372036854775808) : zL x < zL y ↔ x < y := by
  rw [Int64.lt_iff_toInt_lt, zL_toInt hx, zL_toInt hy]
theorem zI_clamp {x : Int} (h : 0 ≤ x ∧ x < 2147483648) : (zI x).toNatClampNeg = x.toNat := by
  rw [← Int32.toNat_toInt, zI_toInt (by omega)]
theorem zI_0 : zI 0 = 0 := rfl
theorem zI_in {x : Int} {n : Nat} (h : 0 ≤ x ∧ x < n) (hn : n < 2147483648) : vp_in (zI x) n := by
  intro q
  rw [zI_clamp (by omega)] at q
  rcases q with q | q
  · rw [← zI_0, zI_lt (by omega) (by omega)] at q
    omega
  · omega
theorem zI_div {a b : Int} (ha : 0 ≤ a ∧ a < 2147483648) (hb : 0 < b ∧ b < 2147483648) : zI a / zI b = zI (a / b) := by
  show Int32.ofInt a / Int32.ofInt b = Int32.ofInt (a / b)
  have m1 : Int32.minValue.toInt = -2147483648 := by decide
  have m2 : Int32.maxValue.toInt = 2147483647 := by decide
  rw [← Int32.ofInt_tdiv (by rw [m1]; omega) (by rw [m2]; omega) (by rw [m1]; omega) (by rw [m2]; omega), Int.tdiv_eq_ediv_of_nonneg ha.1]
theorem zL_div {a b : Int} (ha : 0 ≤ a ∧ a < 9223372036854775808) (hb : 0 < b ∧ b < 9223372036854775808) : zL a / zL b = zL (a / b) := by
  show Int64.ofInt a / Int64.ofInt b = Int64.ofInt (a / b)
  have m1 : Int64.minValue.toInt = -9223372036854775808 := by decide
  have m2 : Int64.maxValue.toInt = 9223372036854775807 := by decide
  rw [← Int64.ofInt_tdiv (by rw [m1]; omega) (by rw [m2]; omega) (by rw [m1]; omega) (by rw [m2]; omega), Int.tdiv_eq_ediv_of_nonneg ha.1]
theorem zI_rem {a b : Int} (ha : 0 ≤ a ∧ a < 2147483648) (hb : 0 < b ∧ b < 2147483648) : zI a - zI a / zI b * zI b = zI (a % b) := by
  rw [zI_div ha hb, zI_mul, zI_sub]
  congr 1
  have := Int.mul_ediv_add_emod a b
  rw [Int.mul_comm] at this
  omega
theorem zL_rem {a b : Int} (ha : 0 ≤ a ∧ a < 9223372036854775808) (hb : 0 < b ∧ b < 9223372036854775808) : zL a - zL a / zL b * zL b = zL (a % b) := by
  rw [zL_div ha hb, zL_mul, zL_sub]
  congr 1
  have := Int.mul_ediv_add_emod a b
  rw [Int.mul_comm] at this
  omega
theorem zI_ne0 {b : Int} (hb : 0 < b ∧ b < 2147483648) : ¬ zI b = 0 := by
  rw [← zI_0, zI_eq (by omega) (by omega)]; omega
theorem zL_ne0 {b : Int} (hb : 0 < b ∧ b < 9223372036854775808) : ¬ zL b = 0 := by
  rw [show (0 : Int64) = zL 0 from rfl, zL_eq (by omega) (by omega)]; omega
theorem zI_l {x : Int} (h : -2147483648 ≤ x ∧ x < 2147483648) : (zI x).toInt64 = zL x := by
  have m1 : Int32.minValue.toInt = -2147483648 := by decide
  have m2 : Int32.maxValue.toInt = 2147483647 := by decide
  exact Int32.toInt64_ofInt (by rw [m1]; omega) (by rw [m2]; omega)
theorem zL_i (x : Int) : (zL x).toInt32 = zI x := Int64.toInt32_ofInt
theorem zI_neg (x : Int) : - zI x = zI (-x) := Int32.neg_ofInt
/-- what lcmp answers -/
theorem zcmp {a b : Int} (ha : -9223372036854775808 ≤ a ∧ a < 9223372036854775808) (hb : -9223372036854775808 ≤ b ∧ b < 9223372036854775808) : lg_cmp (zL a) (zL b) = zI (if b < a then 1 else if a = b then 0 else -1) := by
  unfold lg_cmp
  by_cases h : b < a
  · rw [if_pos h, if_pos ((zL_lt hb ha).mpr h)]; rfl
  · rw [if_neg h, if_neg (fun q => h ((zL_lt hb ha).mp q))]
    by_cases e : a = b
    · rw [if_pos e, if_pos ((zL_eq ha hb).mpr e)]; rfl
    · rw [if_neg e, if_neg (fun q => e ((zL_eq ha hb).mp q))]; rfl
/-- functions on places -/
def up (G : Int → Int) (i v : Int) : Int → Int := fun k => if k = i then v else G k
theorem up_s (G : Int → Int) (i v : Int) : up G i v i = v := if_pos rfl
theorem up_n {G : Int → Int} {i v k : Int} (h : k ≠ i) : up G i v k = G k := if_neg h
theorem up_e {G : Int → Int} {i v k : Int} (h : k = i) : up G i v k = v := if_pos h
theorem up_self (G : Int → Int) (i : Int) : up G i (G i) = G := by
  funext k
  unfold up
  split
  · rename_i h; rw [h]
  · rfl
theorem updL_up (G : Int → Int) (b i v : Int) (h : 0 ≤ i) : vp_updL (fun k : Nat => zL (G (b + k))) i.toNat (zL v) = fun k : Nat => zL (up G (b + i) v (b + k)) := by
  funext k
  unfold vp_updL
  by_cases e : k = i.toNat
  · rw [if_pos e, up_e (by omega)]
  · rw [if_neg e, up_n (by omega)]
theorem updI_up (G : Int → Int) (b i v : Int) (h : 0 ≤ i) : upd (fun k : Nat => zI (G (b + k))) i.toNat (zI v) = fun k : Nat => zI (up G (b + i) v (b + k)) := by
  funext k
  unfold upd
  by_cases e : k = i.toNat
  · rw [if_pos e, up_e (by omega)]
  · rw [if_neg e, up_n (by omega)]
/-! contracts -/
/-- the classes of the arrays: ints, longs, booleans, chars, Meters, Loads, Houses -/
abbrev xT (cs : Nat → ClassId) : List (ClassId × FieldType) := [(cs 0, .int), (cs 1, .long), (cs 2, .boolean), (cs 3, .char), (cs 4, .object RX4), (cs 5, .object RX3), (cs 6, .object RX2)]
/-- the two links of House to private methods of EnergyDiscs (a nest's words stand in no list of a method) -/
def kN (U : State) : Prop := va_Nw (.methodLinkNest RX2 101 yX6_minutesToSwitch RX6) U ∧ va_Nw (.methodLinkNest RX2 116 yX6_isNight RX6) U
def kK (D : va_G) (cs : Nat → ClassId) (U : State) : Prop := va_K D vwCl (xT cs) U ∧ kN U
theorem kK.warm {D : va_G} {cs : Nat → ClassId} {s U : State} (hW : s.WarmedH U.vm) (h : kK D cs s) : kK D cs U := ⟨va_K.moved hW.alike h.1, va_Nw.warmM hW h.2.1, va_Nw.warmM hW h.2.2⟩
def kW (D : va_G) (cs : Nat → ClassId) (P : Heap → Prop) : State → Prop := fun U => kK D cs U ∧ P U.heap
/-- ends: nothing changed; only cells of a kind changed -/
def kS (v : Option Value) : Array Value → State → Outcome → State → Prop := fun _ st o t => o = .returned v ∧ t.heap = st.heap
def kQ (v : Option Value) (B : Heap → Prop) (A : Nat → Prop) : Array Value → State → Outcome → State → Prop := fun _ st o t => o = .returned v ∧ B t.heap ∧ va_F A st t
abbrev kR (D : va_G) (cs : Nat → ClassId) (l : Launch) (y : MethodName) (ws : List Cond) (rm : Room) (as : List Value) (P : Heap → Prop) (v : Option Value) : Prop := Met l y ws rm (va_Pc as (kW D cs P)) (kS v) 0 0 (fun _ => False)
abbrev kM (D : va_G) (cs : Nat → ClassId) (l : Launch) (y : MethodName) (ws : List Cond) (rm : Room) (as : List Value) (P : Heap → Prop) (v : Option Value) (B : Heap → Prop) (A : Nat → Prop) : Prop := Met l y ws rm (va_Pc as (kW D cs P)) (kQ v B A) 0 0 A
theorem kW_blind {D : va_G} {cs : Nat → ClassId} {P : Heap → Prop} {as : List Value} : FrameBlind (va_Pc as (kW D cs P)) := by
  intro a U g mk h
  obtain ⟨h1, h2, h3⟩ := h
  exact ⟨h1, ⟨va_K.moved (u := U) (U := U.calling g mk a) (Vm.Alike.refl U.vm) h2.1, va_Nw.same rfl rfl h2.2.1, va_Nw.same rfl rfl h2.2.2⟩, h3⟩
abbrev kF (A : Nat → Prop) (H H1 : Heap) : Prop := H.size ≤ H1.size ∧ ∀ q : Nat, q < H.size → ¬ A q → H1[q]? = H[q]?
theorem va_at1 {D : va_G} {b : Nat} {e : va_E} {H : Heap} (h : va_at D vwCl (b, e) H) : va_P D vwCl [(b, e)] H := by
  intro k q hk
  match k, hk with
  | 0, hk => cases hk; exact h
  | k + 1, hk => simp at hk
theorem va_at_lt {D : va_G} {b : Nat} {e : va_E} {H : Heap} (h : va_at D vwCl (b, e) H) : b < H.size := va_at.lt h
theorem va_at_F {D : va_G} {A : Nat → Prop} {b : Nat} {e : va_E} {H H1 : Heap} (h : va_at D vwCl (b, e) H) (hF : kF A H H1) (hA : ¬ A b) : va_at D vwCl (b, e) H1 := va_at.kept h (hF.2 b (va_at.lt h) hA)
section XB
variable {p : Program} {l : Launch} {e : Env} {R : Room} {s : State} {m : MethodId} {args : Array Value} {below : List Frame} {meth : Method} {c : Code} {H : Heap} {locs : List Loc} {cells slots : Nat} {Q : State → Prop} {cc : ByteArray} {pc : Nat} {ls : Array Slot} {rest : List Value} {D : va_G} {cs : Nat → ClassId}
theorem x_iconst (hx : p.tables.exec = Jvm.exec) (hb : c.code = cc) {n : Int} (d : decode cc pc = .ok (.iconst n, 1)) (k : W p l e R s m args below meth c H locs cells slots Q (F0 m (pc + 1) ls (.int (zI n) :: rest))) : W p l e R s m args below meth c H locs cells slots Q (F0 m pc ls rest) := lv_iconst hx hb d rfl k
theorem x_bipush (hx : p.tables.exec = Jvm.exec) (hb : c.code = cc) {n : Int} (d : decode cc pc = .ok (.bipush n, 2)) (h : (Int8.ofInt n).toInt32 = zI n) (k : W p l e R s m args below meth c H locs cells slots Q (F0 m (pc + 2) ls (.int (zI n) :: rest))) : W p l e R s m args below meth c H locs cells slots Q (F0 m pc ls rest) := lv_bipush hx hb d h k
theorem x_sipush (hx : p.tables.exec = Jvm.exec) (hb : c.code = cc) {n : Int} (d : decode cc pc = .ok (.sipush n, 3)) (h : (Int16.ofInt n).toInt32 = zI n) (k : W p l e R s m args below meth c H locs cells slots Q (F0 m (pc + 3) ls (.int (zI n) :: rest))) : W p l e R s m args below meth c H locs cells slots Q (F0 m pc ls rest) := lv_sipush hx hb d h k
theorem x_lconst (hx : p.tables.exec = Jvm.exec) (hb : c.code = cc) {n : Fin 2} {v : Int} (d : decode cc pc = .ok (.lconst n, 1)) (h : Int64.ofNat (n : Nat) = zL v) (k : W p l e R s m args below meth c H locs cells slots Q (F0 m (pc + 1) ls (.long (zL v) :: rest))) : W p l e R s m args below meth c H locs cells slots Q (F0 m pc ls rest) := lv_lconst hx hb d h k
theorem x_ldc (hx : p.tables.exec = Jvm.exec) (hb : c.code = cc) {own : String} {index : Nat} {v : Int} (hown : s.vm.findClass own = some m.cls) (hconst : (Jvm.Cond.constant own index (zI v)).before args s = true) (d : decode cc pc = .ok (.ldc index, 2)) (k : W p l e R s m args below meth c H locs cells slots Q (F0 m (pc + 2) ls (.int (zI v) :: rest))) : W p l e R s m args below meth c H locs cells slots Q (F0 m pc ls rest) := lv_ldc hx hb hown hconst d k
theorem x_ldc2 (hx : p.tables.exec = Jvm.exec) (hb : c.code = cc) {own : String} {index : Nat} {v : Int} (hown : s.vm.findClass own = some m.cls) (hconst : (Jvm.Cond.constantLong own index (zL v)).before args s = true) (d : decode cc pc = .ok (.ldc2_w index, 3)) (k : W p l e R s m args below meth c H locs cells slots Q (F0 m (pc + 3) ls (.long (zL v) :: rest))) : W p l e R s m args below meth c H locs cells slots Q (F0 m pc ls rest) := lv_ldc2 hx hb hown hconst d k
theorem x_iadd (hx : p.tables.exec = Jvm.exec) (hb : c.code = cc) {a b : Int} (d : decode cc pc = .ok (.iadd, 1)) (k : W p l e R s m args below meth c H locs cells slots Q (F0 m (pc + 1) ls (.int (zI (a + b)) :: rest))) : W p l e R s m args below meth c H locs cells slots Q (F0 m pc ls (.int (zI b) :: .int (zI a) :: rest)) := lv_iadd hx hb d (by rw [zI_add]; exact k)
theorem x_isub (hx : p.tables.exec = Jvm.exec) (hb : c.code = cc) {a b : Int} (d : decode cc pc = .ok (.isub, 1)) (k : W p l e R s m args below meth c H locs cells slots Q (F0 m (pc + 1) ls (.int (zI (a - b)) :: rest))) : W p l e R s m args below meth c H locs cells slots Q (F0 m pc ls (.int (zI b) :: .int (zI a) :: rest)) := lv_isub hx hb d (by rw [zI_sub]; exact k)
theorem x_imul (hx : p.tables.exec = Jvm.exec) (hb : c.code = cc) {a b : Int} (d : decode cc pc = .ok (.imul, 1)) (k : W p l e R s m args below meth c H locs cells slots Q (F0 m (pc + 1) ls (.int (zI (a * b)) :: rest))) : W p l e R s m args below meth c H locs cells slots Q (F0 m pc ls (.int (zI b) :: .int (zI a) :: rest)) := lv_imul hx hb d (by rw [zI_mul]; exact k)
theorem x_ladd (hx : p.tables.exec = Jvm.exec) (hb : c.code = cc) {a b : Int} (d : decode cc pc = .ok (.ladd, 1)) (k : W p l e R s m args below meth c H locs cells slots Q (F0 m (pc + 1) ls (.long (zL (a + b)) :: rest))) : W p l e R s m args below meth c H locs cells slots Q (F0 m pc ls (.long (zL b) :: .long (zL a) :: rest)) := lv_ladd hx hb d (by rw [zL_add]; exact k)
theorem x_lsub (hx : p.tables.exec = Jvm.exec) (hb : c.code = cc) {a b : Int} (d : decode cc pc = .ok (.lsub, 1)) (k : W p l e R s m args below meth c H locs cells slots Q (F0 m (pc + 1) ls (.long (zL (a - b)) :: rest))) : W p l e R s m args below meth c H locs cells slots Q (F0 m pc ls (.long (zL b) :: .long (zL a) :: rest)) := lv_lsub hx hb d (by rw [zL_sub]; exact k)
theorem x_lmul (hx : p.tables.exec = Jvm.exec) (hb : c.code = cc) {a b : Int} (d : decode cc pc = .ok (.lmul, 1)) (k : W p l e R s m args below meth c H locs cells slots Q (F0 m (pc + 1) ls (.long (zL (a * b)) :: rest))) : W p l e R s m args below meth c H locs cells slots Q (F0 m pc ls (.long (zL b) :: .long (zL a) :: rest)) := lv_lmul hx hb d (by rw [zL_mul]; exact k)
theorem x_idiv (hx : p.tables.exec = Jvm.exec) (hb : c.code = cc) {a b : Int} (ha : 0 ≤ a ∧ a < 2147483648) (hb0 : 0 < b ∧ b < 2147483648) (d : decode cc pc = .ok (.idiv, 1)) (k : W p l e R s m args below meth c H locs cells slots Q (F0 m (pc + 1) ls (.int (zI (a / b)) :: rest))) : W p l e R s m args below meth c H locs cells slots Q (F0 m pc ls (.int (zI b) :: .int (zI a) :: rest)) := lv_idiv hx hb d (zI_ne0 hb0) (by rw [zI_div ha hb0]; exact k)
theorem x_irem (hx : p.tables.exec = Jvm.exec) (hb : c.code = cc) {a b : Int} (ha : 0 ≤ a ∧ a < 2147483648) (hb0 : 0 < b ∧ b < 2147483648) (d : decode cc pc = .ok (.irem, 1)) (k : W p l e R s m args below meth c H locs cells slots Q (F0 m (pc + 1) ls (.int (zI (a % b)) :: rest))) : W p l e R s m args below meth c H locs cells slots Q (F0 m pc ls (.int (zI b) :: .int (zI a) :: rest)) := lv_irem hx hb d (zI_ne0 hb0) (by rw [zI_rem ha hb0]; exact k)
theorem x_ldiv (hx : p.tables.exec = Jvm.exec) (hb : c.code = cc) {a b : Int} (ha : 0 ≤ a ∧ a < 9223372036854775808) (hb0 : 0 < b ∧ b < 9223372036854775808) (d : decode cc pc = .ok (.ldiv, 1)) (k : W p l e R s m args below meth c H locs cells slots Q (F0 m (pc + 1) ls (.long (zL (a / b)) :: rest))) : W p l e R s m args below meth c H locs cells slots Q (F0 m pc ls (.long (zL b) :: .long (zL a) :: rest)) := lv_ldiv hx hb d (zL_ne0 hb0) (by rw [zL_div ha hb0]; exact k)
theorem x_lrem (hx : p.tables.exec = Jvm.exec) (hb : c.code = cc) {a b : Int} (ha : 0 ≤ a ∧ a < 9223372036854775808) (hb0 : 0 < b ∧ b < 9223372036854775808) (d : decode cc pc = .ok (.lrem, 1)) (k : W p l e R s m args below meth c H locs cells slots Q (F0 m (pc + 1) ls (.long (zL (a % b)) :: rest))) : W p l e R s m args below meth c H locs cells slots Q (F0 m pc ls (.long (zL b) :: .long (zL a) :: rest)) := lv_lrem hx hb d (zL_ne0 hb0) (by rw [zL_rem ha hb0]; exact k)
theorem x_i2l (hx : p.tables.exec = Jvm.exec) (hb : c.code = cc) {a : Int} (ha : -2147483648 ≤ a ∧ a < 2147483648) (d : decode cc pc = .ok (.i2l, 1)) (k : W p l e R s m args below meth c H locs cells slots Q (F0 m (pc + 1) ls (.long (zL a) :: rest))) : W p l e R s m args below meth c H locs cells slots Q (F0 m pc ls (.int (zI a) :: rest)) := lv_i2l hx hb d (zI_l ha) k
theorem x_l2i (hx : p.tables.exec = Jvm.exec) (hb : c.code = cc) {a : Int} (d : decode cc pc = .ok (.l2i, 1)) (k : W p l e R s m args below meth c H locs cells slots Q (F0 m (pc + 1) ls (.int (zI a) :: rest))) : W p l e R s m args below meth c H locs cells slots Q (F0 m pc ls (.long (zL a) :: rest)) := lv_l2i hx hb d (zL_i a) k
theorem x_iinc (hx : p.tables.exec = Jvm.exec) (hb : c.code = cc) {i nL k : Nat} {n x : Int} {lv lv' : List (Nat × Value)} (d : decode cc pc = .ok (.iinc i n, 3)) (h : lv_has ls nL lv) (hk : lv[k]? = some (i, .int (zI x))) (hn : i < nL) (hl : (i, Value.int (zI (x + n))) :: lv.filter (fun q => !(q.1 == i) && !(q.1 + 1 == i && q.2.category == 2)) = lv') (kk : ∀ ls' : Array Slot, lv_has ls' nL lv' → W p l e R s m args below meth c H locs cells slots Q (F0 m (pc + 3) ls' rest)) : W p l e R s m args below meth c H locs cells slots Q (F0 m pc ls rest) := lv_iinc hx hb d h hk (zI_add x n) hn hl kk
theorem x_icmp_eq (hx : p.tables.exec = Jvm.exec) (hb : c.code = cc) {a b : Int} {off : Int} {tgt : Nat} (d : decode cc pc = .ok (.if_icmp .eq off, 3)) (ht : (pc : Int) + off = (tgt : Int)) (ha : -2147483648 ≤ a ∧ a < 2147483648) (hb0 : -2147483648 ≤ b ∧ b < 2147483648) (kt : a = b → W p l e R s m args below meth c H locs cells slots Q (F0 m tgt ls rest)) (kf : ¬ (a = b) → W p l e R s m args below meth c H locs cells slots Q (F0 m (pc + 3) ls rest)) : W p l e R s m args below meth c H locs cells slots Q (F0 m pc ls (.int (zI b) :: .int (zI a) :: rest)) := lv_icmp_eq hx hb d ht (fun q => kt (by first | exact (zI_eq ha hb0).mp q | exact fun w => q ((zI_eq ha hb0).mpr w) | (have := Int32.not_lt.mp q; exact (zI_eq ha hb0).mp this))) (fun q => kf (by first | exact (zI_eq ha hb0).mp q | exact fun w => q ((zI_eq ha hb0).mpr w) | exact (zI_eq ha hb0).mp (Classical.not_not.mp q)))
theorem x_if_eq (hx : p.tables.exec = Jvm.exec) (hb : c.code = cc) {a : Int} {off : Int} {tgt : Nat} (d : decode cc pc = .ok (.ifCond .eq off, 3)) (ht : (pc : Int) + off = (tgt : Int)) (ha : -2147483648 ≤ a ∧ a < 2147483648) (kt : a = 0 → W p l e R s m args below meth c H locs cells slots Q (F0 m tgt ls rest)) (kf : ¬ (a = 0) → W p l e R s m args below meth c H locs cells slots Q (F0 m (pc + 3) ls rest)) : W p l e R s m args below meth c H locs cells slots Q (F0 m pc ls (.int (zI a) :: rest)) := lv_if_eq hx hb d ht (fun q => kt (by first | exact (zI_eq ha (⟨by decide, by decide⟩ : -2147483648 ≤ (0 : Int) ∧ (0 : Int) < 2147483648)).mp q | exact fun w => q ((zI_eq ha (⟨by decide, by decide⟩ : -2147483648 ≤ (0 : Int) ∧ (0 : Int) < 2147483648)).mpr w))) (fun q => kf (by first | exact (zI_eq ha (⟨by decide, by decide⟩ : -2147483648 ≤ (0 : Int) ∧ (0 : Int) < 2147483648)).mp q | exact fun w => q ((zI_eq ha (⟨by decide, by decide⟩ : -2147483648 ≤ (0 : Int) ∧ (0 : Int) < 2147483648)).mpr w) | exact (zI_eq ha (⟨by decide, by decide⟩ : -2147483648 ≤ (0 : Int) ∧ (0 : Int) < 2147483648)).mp (Classical.not_not.mp q)))
theorem x_lcmp_eq (hx : p.tables.exec = Jvm.exec) (hb : c.code = cc) {a b : Int} {off : Int} {tgt : Nat} (d1 : decode cc pc = .ok (.lcmp, 1)) (d : decode cc (pc + 1) = .ok (.ifCond .eq off, 3)) (ht : (pc : Int) + 1 + off = (tgt : Int)) (ha : -9223372036854775808 ≤ a ∧ a < 9223372036854775808) (hb0 : -9223372036854775808 ≤ b ∧ b < 9223372036854775808) (kt : a = b → W p l e R s m args below meth c H locs cells slots Q (F0 m tgt ls rest)) (kf : ¬ (a = b) → W p l e R s m args below meth c H locs cells slots Q (F0 m (pc + 4) ls rest)) : W p l e R s m args below meth c H locs cells slots Q (F0 m pc ls (.long (zL b) :: .long (zL a) :: rest)) := by
  refine W.lcmp hx hb d1 ?_
  rw [zcmp ha hb0]
  refine x_if_eq hx hb d (by omega) (by split <;> (try split) <;> omega) (fun q => kt ?_) (fun q => kf ?_)
  · split at q <;> (try split at q) <;> omega
  · split at q <;> (try split at q) <;> omega
theorem x_icmp_ne (hx : p.tables.exec = Jvm.exec) (hb : c.code = cc) {a b : Int} {off : Int} {tgt : Nat} (d : decode cc pc = .ok (.if_icmp .ne off, 3)) (ht : (pc : Int) + off = (tgt : Int)) (ha : -2147483648 ≤ a ∧ a < 2147483648) (hb0 : -2147483648 ≤ b ∧ b < 2147483648) (kt : ¬ (a = b) → W p l e R s m args below meth c H locs cells slots Q (F0 m tgt ls rest)) (kf : a = b → W p l e R s m args below meth c H locs cells slots Q (F0 m (pc + 3) ls rest)) : W p l e R s m args below meth c H locs cells slots Q (F0 m pc ls (.int (zI b) :: .int (zI a) :: rest)) := lv_icmp_ne hx hb d ht (fun q => kt (by first | exact (zI_eq ha hb0).mp q | exact fun w => q ((zI_eq ha hb0).mpr w) | (have := Int32.not_lt.mp q; exact (zI_eq ha hb0).mp this))) (fun q => kf (by first | exact (zI_eq ha hb0).mp q | exact fun w => q ((zI_eq ha hb0).mpr w) | exact (zI_eq ha hb0).mp (Classical.not_not.mp q)))
theorem x_if_ne (hx : p.tables.exec = Jvm.exec) (hb : c.code = cc) {a : Int} {off : Int} {tgt : Nat} (d : decode cc pc = .ok (.ifCond .ne off, 3)) (ht : (pc : Int) + off = (tgt : Int)) (ha : -2147483648 ≤ a ∧ a < 2147483648) (kt : ¬ (a = 0) → W p l e R s m args below meth c H locs cells slots Q (F0 m tgt ls rest)) (kf : a = 0 → W p l e R s m args below meth c H locs cells slots Q (F0 m (pc + 3) ls rest)) : W p l e R s m args below meth c H locs cells slots Q (F0 m pc ls (.int (zI a) :: rest)) := lv_if_ne hx hb d ht (fun q => kt (by first | exact (zI_eq ha (⟨by decide, by decide⟩ : -2147483648 ≤ (0 : Int) ∧ (0 : Int) < 2147483648)).mp q | exact fun w => q ((zI_eq ha (⟨by decide, by decide⟩ : -2147483648 ≤ (0 : Int) ∧ (0 : Int) < 2147483648)).mpr w))) (fun q => kf (by first | exact (zI_eq ha (⟨by decide, by decide⟩ : -2147483648 ≤ (0 : Int) ∧ (0 : Int) < 2147483648)).mp q | exact fun w => q ((zI_eq ha (⟨by decide, by decide⟩ : -2147483648 ≤ (0 : Int) ∧ (0 : Int) < 2147483648)).mpr w) | exact (zI_eq ha (⟨by decide, by decide⟩ : -2147483648 ≤ (0 : Int) ∧ (0 : Int) < 2147483648)).mp (Classical.not_not.mp q)))
theorem x_lcmp_ne (hx : p.tables.exec = Jvm.exec) (hb : c.code = cc) {a b : Int} {off : Int} {tgt : Nat} (d1 : decode cc pc = .ok (.lcmp, 1)) (d : decode cc (pc + 1) = .ok (.ifCond .ne off, 3)) (ht : (pc : Int) + 1 + off = (tgt : Int)) (ha : -9223372036854775808 ≤ a ∧ a < 9223372036854775808) (hb0 : -9223372036854775808 ≤ b ∧ b < 9223372036854775808) (kt : ¬ (a = b) → W p l e R s m args below meth c H locs cells slots Q (F0 m tgt ls rest)) (kf : a = b → W p l e R s m args below meth c H locs cells slots Q (F0 m (pc + 4) ls rest)) : W p l e R s m args below meth c H locs cells slots Q (F0 m pc ls (.long (zL b) :: .long (zL a) :: rest)) := by
  refine W.lcmp hx hb d1 ?_
  rw [zcmp ha hb0]
  refine x_if_ne hx hb d (by omega) (by split <;> (try split) <;> omega) (fun q => kt ?_) (fun q => kf ?_)
  · split at q <;> (try split at q) <;> omega
  · split at q <;> (try split at q) <;> omega
theorem x_icmp_lt (hx : p.tables.exec = Jvm.exec) (hb : c.code = cc) {a b : Int} {off : Int} {tgt : Nat} (d : decode cc pc = .ok (.if_icmp .lt off, 3)) (ht : (pc : Int) + off = (tgt : Int)) (ha : -2147483648 ≤ a ∧ a < 2147483648) (hb0 : -2147483648 ≤ b ∧ b < 2147483648) (kt : a < b → W p l e R s m args below meth c H locs cells slots Q (F0 m tgt ls rest)) (kf : ¬ (a < b) → W p l e R s m args below meth c H locs cells slots Q (F0 m (pc + 3) ls rest)) : W p l e R s m args below meth c H locs cells slots Q (F0 m pc ls (.int (zI b) :: .int (zI a) :: rest)) := lv_icmp_lt hx hb d ht (fun q => kt (by first | exact (zI_lt ha hb0).mp q | exact fun w => q ((zI_lt ha hb0).mpr w) | (have := Int32.not_lt.mp q; exact (zI_lt ha hb0).mp this))) (fun q => kf (by first | exact (zI_lt ha hb0).mp q | exact fun w => q ((zI_lt ha hb0).mpr w) | exact (zI_lt ha hb0).mp (Classical.not_not.mp q)))
theorem x_if_lt (hx : p.tables.exec = Jvm.exec) (hb : c.code = cc) {a : Int} {off : Int} {tgt : Nat} (d : decode cc pc = .ok (.ifCond .lt off, 3)) (ht : (pc : Int) + off = (tgt : Int)) (ha : -2147483648 ≤ a ∧ a < 2147483648) (kt : a < 0 → W p l e R s m args below meth c H locs cells slots Q (F0 m tgt ls rest)) (kf : ¬ (a < 0) → W p l e R s m args below meth c H locs cells slots Q (F0 m (pc + 3) ls rest)) : W p l e R s m args below meth c H locs cells slots Q (F0 m pc ls (.int (zI a) :: rest)) := lv_if_lt hx hb d ht (fun q => kt (by first | exact (zI_lt ha (⟨by decide, by decide⟩ : -2147483648 ≤ (0 : Int) ∧ (0 : Int) < 2147483648)).mp q | exact fun w => q ((zI_lt ha (⟨by decide, by decide⟩ : -2147483648 ≤ (0 : Int) ∧ (0 : Int) < 2147483648)).mpr w))) (fun q => kf (by first | exact (zI_lt ha (⟨by decide, by decide⟩ : -2147483648 ≤ (0 : Int) ∧ (0 : Int) < 2147483648)).mp q | exact fun w => q ((zI_lt ha (⟨by decide, by decide⟩ : -2147483648 ≤ (0 : Int) ∧ (0 : Int) < 2147483648)).mpr w) | exact (zI_lt ha (⟨by decide, by decide⟩ : -2147483648 ≤ (0 : Int) ∧ (0 : Int) < 2147483648)).mp (Classical.not_not.mp q)))
theorem x_lcmp_lt (hx : p.tables.exec = Jvm.exec) (hb : c.code = cc) {a b : Int} {off : Int} {tgt : Nat} (d1 : decode cc pc = .ok (.lcmp, 1)) (d : decode cc (pc + 1) = .ok (.ifCond .lt off, 3)) (ht : (pc : Int) + 1 + off = (tgt : Int)) (ha : -9223372036854775808 ≤ a ∧ a < 9223372036854775808) (hb0 : -9223372036854775808 ≤ b ∧ b < 9223372036854775808) (kt : a < b → W p l e R s m args below meth c H locs cells slots Q (F0 m tgt ls rest)) (kf : ¬ (a < b) → W p l e R s m args below meth c H locs cells slots Q (F0 m (pc + 4) ls rest)) : W p l e R s m args below meth c H locs cells slots Q (F0 m pc ls (.long (zL b) :: .long (zL a) :: rest)) := by
  refine W.lcmp hx hb d1 ?_
  rw [zcmp ha hb0]
  refine x_if_lt hx hb d (by omega) (by split <;> (try split) <;> omega) (fun q => kt ?_) (fun q => kf ?_)
  · split at q <;> (try split at q) <;> omega
  · split at q <;> (try split at q) <;> omega
theorem x_icmp_ge (hx : p.tables.exec = Jvm.exec) (hb : c.code = cc) {a b : Int} {off : Int} {tgt : Nat} (d : decode cc pc = .ok (.if_icmp .ge off, 3)) (ht : (pc : Int) + off = (tgt : Int)) (ha : -2147483648 ≤ a ∧ a < 2147483648) (hb0 : -2147483648 ≤ b ∧ b < 2147483648) (kt : b ≤ a → W p l e R s m args below meth c H locs cells slots Q (F0 m tgt ls rest)) (kf : ¬ (b ≤ a) → W p l e R s m args below meth c H locs cells slots Q (F0 m (pc + 3) ls rest)) : W p l e R s m args below meth c H locs cells slots Q (F0 m pc ls (.int (zI b) :: .int (zI a) :: rest)) := lv_icmp_ge hx hb d ht (fun q => kt (by first | exact (zI_le hb0 ha).mp q | exact fun w => q ((zI_le hb0 ha).mpr w) | (have := Int32.not_lt.mp q; exact (zI_le hb0 ha).mp this))) (fun q => kf (by first | exact (zI_le hb0 ha).mp q | exact fun w => q ((zI_le hb0 ha).mpr w) | exact (zI_le hb0 ha).mp (Classical.not_not.mp q)))
theorem x_if_ge (hx : p.tables.exec = Jvm.exec) (hb : c.code = cc) {a : Int} {off : Int} {tgt : Nat} (d : decode cc pc = .ok (.ifCond .ge off, 3)) (ht : (pc : Int) + off = (tgt : Int)) (ha : -2147483648 ≤ a ∧ a < 2147483648) (kt : 0 ≤ a → W p l e R s m args below meth c H locs cells slots Q (F0 m tgt ls rest)) (kf : ¬ (0 ≤ a) → W p l e R s m args below meth c H locs cells slots Q (F0 m (pc + 3) ls rest)) : W p l e R s m args below meth c H locs cells slots Q (F0 m pc ls (.int (zI a) :: rest)) := lv_if_ge hx hb d ht (fun q => kt (by first | exact (zI_le (⟨by decide, by decide⟩ : -2147483648 ≤ (0 : Int) ∧ (0 : Int) < 2147483648) ha).mp q | exact fun w => q ((zI_le (⟨by decide, by decide⟩ : -2147483648 ≤ (0 : Int) ∧ (0 : Int) < 2147483648) ha).mpr w))) (fun q => kf (by first | exact (zI_le (⟨by decide, by decide⟩ : -2147483648 ≤ (0 : Int) ∧ (0 : Int) < 2147483648) ha).mp q | exact fun w => q ((zI_le (⟨by decide, by decide⟩ : -2147483648 ≤ (0 : Int) ∧ (0 : Int) < 2147483648) ha).mpr w) | exact (zI_le (⟨by decide, by decide⟩ : -2147483648 ≤ (0 : Int) ∧ (0 : Int) < 2147483648) ha).mp (Classical.not_not.mp q)))
theorem x_lcmp_ge (hx : p.tables.exec = Jvm.exec) (hb : c.code = cc) {a b : Int} {off : Int} {tgt : Nat} (d1 : decode cc pc = .ok (.lcmp, 1)) (d : decode cc (pc + 1) = .ok (.ifCond .ge off, 3)) (ht : (pc : Int) + 1 + off = (tgt : Int)) (ha : -9223372036854775808 ≤ a ∧ a < 9223372036854775808) (hb0 : -9223372036854775808 ≤ b ∧ b < 9223372036854775808) (kt : b ≤ a → W p l e R s m args below meth c H locs cells slots Q (F0 m tgt ls rest)) (kf : ¬ (b ≤ a) → W p l e R s m args below meth c H locs cells slots Q (F0 m (pc + 4) ls rest)) : W p l e R s m args below meth c H locs cells slots Q (F0 m pc ls (.long (zL b) :: .long (zL a) :: rest)) := by
  refine W.lcmp hx hb d1 ?_
  rw [zcmp ha hb0]
  refine x_if_ge hx hb d (by omega) (by split <;> (try split) <;> omega) (fun q => kt ?_) (fun q => kf ?_)
  · split at q <;> (try split at q) <;> omega
  · split at q <;> (try split at q) <;> omega
theorem x_icmp_gt (hx : p.tables.exec = Jvm.exec) (hb : c.code = cc) {a b : Int} {off : Int} {tgt : Nat} (d : decode cc pc = .ok (.if_icmp .gt off, 3)) (ht : (pc : Int) + off = (tgt : Int)) (ha : -2147483648 ≤ a ∧ a < 2147483648) (hb0 : -2147483648 ≤ b ∧ b < 2147483648) (kt : b < a → W p l e R s m args below meth c H locs cells slots Q (F0 m tgt ls rest)) (kf : ¬ (b < a) → W p l e R s m args below meth c H locs cells slots Q (F0 m (pc + 3) ls rest)) : W p l e R s m args below meth c H locs cells slots Q (F0 m pc ls (.int (zI b) :: .int (zI a) :: rest)) := lv_icmp_gt hx hb d ht (fun q => kt (by first | exact (zI_lt hb0 ha).mp q | exact fun w => q ((zI_lt hb0 ha).mpr w) | (have := Int32.not_lt.mp q; exact (zI_lt hb0 ha).mp this))) (fun q => kf (by first | exact (zI_lt hb0 ha).mp q | exact fun w => q ((zI_lt hb0 ha).mpr w) | exact (zI_lt hb0 ha).mp (Classical.not_not.mp q)))
theorem x_if_gt (hx : p.tables.exec = Jvm.exec) (hb : c.code = cc) {a : Int} {off : Int} {tgt : Nat} (d : decode cc pc = .ok (.ifCond .gt off, 3)) (ht : (pc : Int) + off = (tgt : Int)) (ha : -2147483648 ≤ a ∧ a < 2147483648) (kt : 0 < a → W p l e R s m args below meth c H locs cells slots Q (F0 m tgt ls rest)) (kf : ¬ (0 < a) → W p l e R s m args below meth c H locs cells slots Q (F0 m (pc + 3) ls rest)) : W p l e R s m args below meth c H locs cells slots Q (F0 m pc ls (.int (zI a) :: rest)) := lv_if_gt hx hb d ht (fun q => kt (by first | exact (zI_lt (⟨by decide, by decide⟩ : -2147483648 ≤ (0 : Int) ∧ (0 : Int) < 2147483648) ha).mp q | exact fun w => q ((zI_lt (⟨by decide, by decide⟩ : -2147483648 ≤ (0 : Int) ∧ (0 : Int) < 2147483648) ha).mpr w))) (fun q => kf (by first | exact (zI_lt (⟨by decide, by decide⟩ : -2147483648 ≤ (0 : Int) ∧ (0 : Int) < 2147483648) ha).mp q | exact fun w => q ((zI_lt (⟨by decide, by decide⟩ : -2147483648 ≤ (0 : Int) ∧ (0 : Int) < 2147483648) ha).mpr w) | exact (zI_lt (⟨by decide, by decide⟩ : -2147483648 ≤ (0 : Int) ∧ (0 : Int) < 2147483648) ha).mp (Classical.not_not.mp q)))
theorem x_lcmp_gt (hx : p.tables.exec = Jvm.exec) (hb : c.code = cc) {a b : Int} {off : Int} {tgt : Nat} (d1 : decode cc pc = .ok (.lcmp, 1)) (d : decode cc (pc + 1) = .ok (.ifCond .gt off, 3)) (ht : (pc : Int) + 1 + off = (tgt : Int)) (ha : -9223372036854775808 ≤ a ∧ a < 9223372036854775808) (hb0 : -9223372036854775808 ≤ b ∧ b < 9223372036854775808) (kt : b < a → W p l e R s m args below meth c H locs cells slots Q (F0 m tgt ls rest)) (kf : ¬ (b < a) → W p l e R s m args below meth c H locs cells slots Q (F0 m (pc + 4) ls rest)) : W p l e R s m args below meth c H locs cells slots Q (F0 m pc ls (.long (zL b) :: .long (zL a) :: rest)) := by
  refine W.lcmp hx hb d1 ?_
  rw [zcmp ha hb0]
  refine x_if_gt hx hb d (by omega) (by split <;> (try split) <;> omega) (fun q => kt ?_) (fun q => kf ?_)
  · split at q <;> (try split at q) <;> omega
  · split at q <;> (try split at q) <;> omega
theorem x_icmp_le (hx : p.tables.exec = Jvm.exec) (hb : c.code = cc) {a b : Int} {off : Int} {tgt : Nat} (d : decode cc pc = .ok (.if_icmp .le off, 3)) (ht : (pc : Int) + off = (tgt : Int)) (ha : -2147483648 ≤ a ∧ a < 2147483648) (hb0 : -2147483648 ≤ b ∧ b < 2147483648) (kt : a ≤ b → W p l e R s m args below meth c H locs cells slots Q (F0 m tgt ls rest)) (kf : ¬ (a ≤ b) → W p l e R s m args below meth c H locs cells slots Q (F0 m (pc + 3) ls rest)) : W p l e R s m args below meth c H locs cells slots Q (F0 m pc ls (.int (zI b) :: .int (zI a) :: rest)) := lv_icmp_le hx hb d ht (fun q => kt (by first | exact (zI_le ha hb0).mp q | exact fun w => q ((zI_le ha hb0).mpr w) | (have := Int32.not_lt.mp q; exact (zI_le ha hb0).mp this))) (fun q => kf (by first | exact (zI_le ha hb0).mp q | exact fun w => q ((zI_le ha hb0).mpr w) | exact (zI_le ha hb0).mp (Classical.not_not.mp q)))
theorem x_if_le (hx : p.tables.exec = Jvm.exec) (hb : c.code = cc) {a : Int} {off : Int} {tgt : Nat} (d : decode cc pc = .ok (.ifCond .le off, 3)) (ht : (pc : Int) + off = (tgt : Int)) (ha : -2147483648 ≤ a ∧ a < 2147483648) (kt : a ≤ 0 → W p l e R s m args below meth c H locs cells slots Q (F0 m tgt ls rest)) (kf : ¬ (a ≤ 0) → W p l e R s m args below meth c H locs cells slots Q (F0 m (pc + 3) ls rest)) : W p l e R s m args below meth c H locs cells slots Q (F0 m pc ls (.int (zI a) :: rest)) := lv_if_le hx hb d ht (fun q => kt (by first | exact (zI_le ha (⟨by decide, by decide⟩ : -2147483648 ≤ (0 : Int) ∧ (0 : Int) < 2147483648)).mp q | exact fun w => q ((zI_le ha (⟨by decide, by decide⟩ : -2147483648 ≤ (0 : Int) ∧ (0 : Int) < 2147483648)).mpr w))) (fun q => kf (by first | exact (zI_le ha (⟨by decide, by decide⟩ : -2147483648 ≤ (0 : Int) ∧ (0 : Int) < 2147483648)).mp q | exact fun w => q ((zI_le ha (⟨by decide, by decide⟩ : -2147483648 ≤ (0 : Int) ∧ (0 : Int) < 2147483648)).mpr w) | exact (zI_le ha (⟨by decide, by decide⟩ : -2147483648 ≤ (0 : Int) ∧ (0 : Int) < 2147483648)).mp (Classical.not_not.mp q)))
theorem x_lcmp_le (hx : p.tables.exec = Jvm.exec) (hb : c.code = cc) {a b : Int} {off : Int} {tgt : Nat} (d1 : decode cc pc = .ok (.lcmp, 1)) (d : decode cc (pc + 1) = .ok (.ifCond .le off, 3)) (ht : (pc : Int) + 1 + off = (tgt : Int)) (ha : -9223372036854775808 ≤ a ∧ a < 9223372036854775808) (hb0 : -9223372036854775808 ≤ b ∧ b < 9223372036854775808) (kt : a ≤ b → W p l e R s m args below meth c H locs cells slots Q (F0 m tgt ls rest)) (kf : ¬ (a ≤ b) → W p l e R s m args below meth c H locs cells slots Q (F0 m (pc + 4) ls rest)) : W p l e R s m args below meth c H locs cells slots Q (F0 m pc ls (.long (zL b) :: .long (zL a) :: rest)) := by
  refine W.lcmp hx hb d1 ?_
  rw [zcmp ha hb0]
  refine x_if_le hx hb d (by omega) (by split <;> (try split) <;> omega) (fun q => kt ?_) (fun q => kf ?_)
  · split at q <;> (try split at q) <;> omega
  · split at q <;> (try split at q) <;> omega
/-! memory, a cell at a time -/
theorem x_get (hx : p.tables.exec = Jvm.exec) (hb : c.code = cc) {own C : String} {T : u_T} {N ci index : Nat} {Ts : List Cond} (hts : ∀ w ∈ Ts, w.before args s = true) (hin : ∀ w ∈ u_ws C T N, w ∈ Ts) (hown : s.vm.findClass own = some m.cls) (hK : kK D cs s) {b : Nat} {fs : List Value} (ho : va_at D vwCl (b, .inr (ci, fs)) H) (hc : vwCl[ci]? = some (C, T, N)) (k : Nat) (hk : k < N) (hlink : (Cond.fieldLink own index (T k).1 (T k).2.1 (T k).2.2.1).before args s = true) {v : Value} (hv : fs[k]? = some v) (d : decode cc pc = .ok (.getfield index, 3)) (kk : W p l e R s m args below meth c H locs cells slots Q (F0 m (pc + 3) ls (v :: rest))) : W p l e R s m args below meth c H locs cells slots Q (F0 m pc ls (.ref b :: rest)) := va_get hx hb hts hin hown hK.1 (va_at1 ho) 0 rfl hc k hk hlink (fun _ h => h) hv d kk
theorem x_put (hx : p.tables.exec = Jvm.exec) (hb : c.code = cc) {own C : String} {T : u_T} {N ci index : Nat} {Ts : List Cond} (hts : ∀ w ∈ Ts, w.before args s = true) (hin : ∀ w ∈ u_ws C T N, w ∈ Ts) (ty0 : Nat → FieldType) (hty : ∀ k, k < N → parseFieldDescriptor (T k).2.2.1 = some (ty0 k)) (hnm : ∀ a, a < N → ∀ b, b < N → a ≠ b → (T a).2.1 ≠ (T b).2.1) (hown : s.vm.findClass own = some m.cls) (hK : kK D cs s) {b : Nat} {fs : List Value} (ho : va_at D vwCl (b, .inr (ci, fs)) H) (hc : vwCl[ci]? = some (C, T, N)) (k : Nat) (hk : k < N) (hlink : (Cond.fieldLink own index (T k).1 (T k).2.1 (T k).2.2.1).before args s = true) (hfin : (T k).2.2.2 = false) {v : Value} (hn : narrow (ty0 k) v = v) (hfit : fits (ty0 k) v = true) (hl : k < fs.length) (d : decode cc pc = .ok (.putfield index, 3))
    (kk : ∀ (H1 : Heap) (j : Nat), va_at D vwCl (b, .inr (ci, fs.set k v)) H1 → H1.size = H.size → (∀ q, q ≠ b → H1[q]? = H[q]?) → W p l e R s m args below meth c H1 (locs ++ [⟨b, j⟩]) cells slots Q (F0 m (pc + 3) ls rest)) : W p l e R s m args below meth c H locs cells slots Q (F0 m pc ls (v :: .ref b :: rest)) := by
  have hap := va_apart (own := own) hts hin ty0 hty hnm hK.1 hc
  obtain ⟨r, h1, cell, q1, q2, q3, q4⟩ := ho
  have hr : r = (C, T, N) := Option.some.inj (h1.symm.trans hc)
  subst hr
  obtain ⟨hS, hfc, kC, hkC, hkind⟩ := hK.1.1 ci _ hc
  obtain ⟨cf, kf, fi, f, hi, hsl⟩ := hS k hk
  have hlay := hts _ (hin _ (u_in_lay hk))
  unfold u_lay at hlay
  rw [if_neg (by rw [hfin]; decide)] at hlay
  have hst := (u_facts hfc hkC (u_lays hts hin hk) hi).1
  have h6 := u_store hfc hkC hkind hlay hi (hty k hk) hn hfit
  refine W.putK hx hb (f := f) ⟨hown, hlink, ⟨_, _, _, hi⟩, hst⟩ (by rw [q2]; exact h6) q1 q3 (by rw [hsl]; exact k2_hasslot (q4 k hk)) rfl rfl d fun H' e1 e2 e3 => ?_
  rw [hsl] at e1 ⊢
  exact kk H' _ ⟨_, hc, t_OB.to (V := updV (vp_V fs) k v) ⟨_, e1, q2, q3, t_set q4 hap hk v⟩ (fun j _ => vp_updV_set hl v j)⟩ e2 e3
theorem x_putF (hx : p.tables.exec = Jvm.exec) (hb : c.code = cc) {own C : String} {T : u_T} {N ci index : Nat} {Ts : List Cond} (hts : ∀ w ∈ Ts, w.before args s = true) (hin : ∀ w ∈ u_ws C T N, w ∈ Ts) (ty0 : Nat → FieldType) (hty : ∀ k, k < N → parseFieldDescriptor (T k).2.2.1 = some (ty0 k)) (hnm : ∀ a, a < N → ∀ b, b < N → a ≠ b → (T a).2.1 ≠ (T b).2.1) (hown : s.vm.findClass own = some m.cls) (hK : kK D cs s) {b : Nat} {fs : List Value} (ho : va_at D vwCl (b, .inr (ci, fs)) H) (hc : vwCl[ci]? = some (C, T, N)) (k : Nat) (hk : k < N) (hlink : (Cond.fieldLink own index (T k).1 (T k).2.1 (T k).2.2.1).before args s = true) (hfin : (T k).2.2.2 = true) (hin2 : meth.name = "<init>") (hdecl : (T k).1 = own) {v : Value} (hn : narrow (ty0 k) v = v) (hfit : fits (ty0 k) v = true) (hl : k < fs.length) (d : decode cc pc = .ok (.putfield index, 3))
    (kk : ∀ (H1 : Heap) (j : Nat), va_at D vwCl (b, .inr (ci, fs.set k v)) H1 → H1.size = H.size → (∀ q, q ≠ b → H1[q]? = H[q]?) → W p l e R s m args below meth c H1 (locs ++ [⟨b, j⟩]) cells slots Q (F0 m (pc + 3) ls rest)) : W p l e R s m args below meth c H locs cells slots Q (F0 m pc ls (v :: .ref b :: rest)) := by
  have hap := va_apart (own := own) hts hin ty0 hty hnm hK.1 hc
  obtain ⟨r, h1, cell, q1, q2, q3, q4⟩ := ho
  have hr : r = (C, T, N) := Option.some.inj (h1.symm.trans hc)
  subst hr
  obtain ⟨hS, hfc, kC, hkC, hkind⟩ := hK.1.1 ci _ hc
  obtain ⟨cf, kf, fi, f, hi, hsl⟩ := hS k hk
  have hlay := hts _ (hin _ (u_in_lay hk))
  unfold u_lay at hlay
  rw [if_pos hfin] at hlay
  have hst := (u_facts hfc hkC (u_lays hts hin hk) hi).1
  have hcf : m.cls = cf := by
    obtain ⟨_, _, c', _, _, _, -, -, hf', -, -, -, hown2, -⟩ := Cond.laysFinal_spec hlay
    have e1 : c' = cf := by have := hi.symm.trans hf'; simp at this; exact this.1.symm
    rw [hdecl] at hown2
    rw [← e1]; exact Option.some.inj (hown.symm.trans hown2)
  have h6 := u_fits hfc hkC hkind (Or.inr hlay) hi (hty k hk) hn hfit
  refine W.putFinK hx hb hown hlink hi hst hcf hin2 (by rw [q2]; exact h6) q1 q3 (by rw [hsl]; exact k2_hasslot (q4 k hk)) rfl rfl d fun H' e1 e2 e3 => ?_
  rw [hsl] at e1 ⊢
  exact kk H' _ ⟨_, hc, t_OB.to (V := updV (vp_V fs) k v) ⟨_, e1, q2, q3, t_set q4 hap hk v⟩ (fun j _ => vp_updV_set hl v j)⟩ e2 e3
theorem x_iald (hx : p.tables.exec = Jvm.exec) (hb : c.code = cc) (hK : kK D cs s) {b n : Nat} {f : Nat → Int32} (hc : H[b]? = some (vp_cell (cs 0) (n, .inl f))) {i : Int} (hi : 0 ≤ i ∧ i < n) (hn : n < 2147483648) (d : decode cc pc = .ok (.iaload, 1)) (kk : W p l e R s m args below meth c H locs cells slots Q (F0 m (pc + 1) ls (.int (f i.toNat) :: rest))) : W p l e R s m args below meth c H locs cells slots Q (F0 m pc ls (.int (zI i) :: .ref b :: rest)) :=
  va_iald hx hb hK.1 (ws := [(b, .inl (cs 0, (n, .inl f)))]) (va_at1 hc) 0 0 rfl rfl (zI_in hi hn) d (by rw [zI_clamp (by omega)]; exact kk)
theorem x_lald (hx : p.tables.exec = Jvm.exec) (hb : c.code = cc) (hK : kK D cs s) {b n : Nat} {f : Nat → Int64} (hc : H[b]? = some (vp_cell (cs 1) (n, .inr (.inl f)))) {i : Int} (hi : 0 ≤ i ∧ i < n) (hn : n < 2147483648) (d : decode cc pc = .ok (.laload, 1)) (kk : W p l e R s m args below meth c H locs cells slots Q (F0 m (pc + 1) ls (.long (f i.toNat) :: rest))) : W p l e R s m args below meth c H locs cells slots Q (F0 m pc ls (.int (zI i) :: .ref b :: rest)) :=
  va_lald hx hb hK.1 (ws := [(b, .inl (cs 1, (n, .inr (.inl f))))]) (va_at1 hc) 0 1 rfl rfl (zI_in hi hn) d (by rw [zI_clamp (by omega)]; exact kk)
theorem x_zald (hx : p.tables.exec = Jvm.exec) (hb : c.code = cc) (hK : kK D cs s) {b n : Nat} {f : Nat → Int32} (hc : H[b]? = some (vp_cell (cs 2) (n, .inl f))) {i : Int} (hi : 0 ≤ i ∧ i < n) (hn : n < 2147483648) (d : decode cc pc = .ok (.baload, 1)) (kk : W p l e R s m args below meth c H locs cells slots Q (F0 m (pc + 1) ls (.int (f i.toNat) :: rest))) : W p l e R s m args below meth c H locs cells slots Q (F0 m pc ls (.int (zI i) :: .ref b :: rest)) :=
  va_zald hx hb hK.1 (ws := [(b, .inl (cs 2, (n, .inl f)))]) (va_at1 hc) 0 2 rfl rfl (zI_in hi hn) d (by rw [zI_clamp (by omega)]; exact kk)
theorem x_cald (hx : p.tables.exec = Jvm.exec) (hb : c.code = cc) (hK : kK D cs s) {b n : Nat} {f : Nat → Int32} (hc : H[b]? = some (vp_cell (cs 3) (n, .inl f))) {i : Int} (hi : 0 ≤ i ∧ i < n) (hn : n < 2147483648) (d : decode cc pc = .ok (.caload, 1)) (kk : W p l e R s m args below meth c H locs cells slots Q (F0 m (pc + 1) ls (.int (f i.toNat) :: rest))) : W p l e R s m args below meth c H locs cells slots Q (F0 m pc ls (.int (zI i) :: .ref b :: rest)) :=
  va_cald hx hb hK.1 (ws := [(b, .inl (cs 3, (n, .inl f)))]) (va_at1 hc) 0 3 rfl rfl (zI_in hi hn) d (by rw [zI_clamp (by omega)]; exact kk)
theorem x_aald4 (hx : p.tables.exec = Jvm.exec) (hb : c.code = cc) (hK : kK D cs s) {b n : Nat} {f : Nat → Option Nat} (hc : H[b]? = some (vp_cell (cs 4) (n, .inr (.inr (.inr (.inr f)))))) {i : Int} (hi : 0 ≤ i ∧ i < n) (hn : n < 2147483648) (d : decode cc pc = .ok (.aaload, 1)) (kk : W p l e R s m args below meth c H locs cells slots Q (F0 m (pc + 1) ls (va_rf (f i.toNat) :: rest))) : W p l e R s m args below meth c H locs cells slots Q (F0 m pc ls (.int (zI i) :: .ref b :: rest)) :=
  va_aldq hx hb hK.1 (ws := [(b, .inl (cs 4, (n, .inr (.inr (.inr (.inr f))))))]) (va_at1 hc) 0 4 rfl rfl (zI_in hi hn) d (by rw [zI_clamp (by omega)]; exact kk)
theorem x_aald5 (hx : p.tables.exec = Jvm.exec) (hb : c.code = cc) (hK : kK D cs s) {b n : Nat} {f : Nat → Option Nat} (hc : H[b]? = some (vp_cell (cs 5) (n, .inr (.inr (.inr (.inr f)))))) {i : Int} (hi : 0 ≤ i ∧ i < n) (hn : n < 2147483648) (d : decode cc pc = .ok (.aaload, 1)) (kk : W p l e R s m args below meth c H locs cells slots Q (F0 m (pc + 1) ls (va_rf (f i.toNat) :: rest))) : W p l e R s m args below meth c H locs cells slots Q (F0 m pc ls (.int (zI i) :: .ref b :: rest)) :=
  va_aldq hx hb hK.1 (ws := [(b, .inl (cs 5, (n, .inr (.inr (.inr (.inr f))))))]) (va_at1 hc) 0 5 rfl rfl (zI_in hi hn) d (by rw [zI_clamp (by omega)]; exact kk)
theorem x_aald6 (hx : p.tables.exec = Jvm.exec) (hb : c.code = cc) (hK : kK D cs s) {b n : Nat} {f : Nat → Option Nat} (hc : H[b]? = some (vp_cell (cs 6) (n, .inr (.inr (.inr (.inr f)))))) {i : Int} (hi : 0 ≤ i ∧ i < n) (hn : n < 2147483648) (d : decode cc pc = .ok (.aaload, 1)) (kk : W p l e R s m args below meth c H locs cells slots Q (F0 m (pc + 1) ls (va_rf (f i.toNat) :: rest))) : W p l e R s m args below meth c H locs cells slots Q (F0 m pc ls (.int (zI i) :: .ref b :: rest)) :=
  va_aldq hx hb hK.1 (ws := [(b, .inl (cs 6, (n, .inr (.inr (.inr (.inr f))))))]) (va_at1 hc) 0 6 rfl rfl (zI_in hi hn) d (by rw [zI_clamp (by omega)]; exact kk)
theorem x_iast (hx : p.tables.exec = Jvm.exec) (hb : c.code = cc) (hK : kK D cs s) {b n : Nat} {f : Nat → Int32} (hc : H[b]? = some (vp_cell (cs 0) (n, .inl f))) {i : Int} {x : Int32} (hi : 0 ≤ i ∧ i < n) (hn : n < 2147483648) (d : decode cc pc = .ok (.iastore, 1)) (kk : ∀ (H1 : Heap) (j : Nat), H1[b]? = some (vp_cell (cs 0) (n, .inl (upd f i.toNat x))) → H1.size = H.size → (∀ q, q ≠ b → H1[q]? = H[q]?) → W p l e R s m args below meth c H1 (locs ++ [⟨b, j⟩]) cells slots Q (F0 m (pc + 1) ls rest)) : W p l e R s m args below meth c H locs cells slots Q (F0 m pc ls (.int x :: .int (zI i) :: .ref b :: rest)) := by
  refine W.iast hx hb hc ((hK.1.2 0 _ rfl).1 n (fun j => .int (f j))) (fun q => by cases q) (by show ¬ (zI i < 0 ∨ (arrV _ _ _).slots.size ≤ _); rw [arrV_size]; exact zI_in hi hn) rfl rfl d fun H1 e z oq => ?_
  refine kk H1 _ ?_ z oq
  rw [e, zI_clamp (by omega)]
  rw [vp_cell_i, vp_cell_i, arrV_store]
  congr 2
  funext q
  by_cases hq : q = i.toNat
  · subst hq
    simp [updV, upd]
  · simp [updV, upd, hq]
theorem x_last (hx : p.tables.exec = Jvm.exec) (hb : c.code = cc) (hK : kK D cs s) {b n : Nat} {f : Nat → Int64} (hc : H[b]? = some (vp_cell (cs 1) (n, .inr (.inl f)))) {i : Int} {x : Int64} (hi : 0 ≤ i ∧ i < n) (hn : n < 2147483648) (d : decode cc pc = .ok (.lastore, 1)) (kk : ∀ (H1 : Heap) (j : Nat), H1[b]? = some (vp_cell (cs 1) (n, .inr (.inl (vp_updL f i.toNat x)))) → H1.size = H.size → (∀ q, q ≠ b → H1[q]? = H[q]?) → W p l e R s m args below meth c H1 (locs ++ [⟨b, j⟩]) cells slots Q (F0 m (pc + 1) ls rest)) : W p l e R s m args below meth c H locs cells slots Q (F0 m pc ls (.long x :: .int (zI i) :: .ref b :: rest)) := by
  refine W.last hx hb hc ((hK.1.2 1 _ rfl).1 n (fun j => .long (f j))) (fun q => by cases q) (by show ¬ (zI i < 0 ∨ (arrV _ _ _).slots.size ≤ _); rw [arrV_size]; exact zI_in hi hn) rfl rfl d fun H1 e z oq => ?_
  refine kk H1 _ ?_ z oq
  rw [e, zI_clamp (by omega)]
  rw [vp_cell_l, vp_cell_l, arrV_store]
  congr 2
  funext q
  by_cases hq : q = i.toNat
  · subst hq
    simp [updV, vp_updL]
  · simp [updV, vp_updL, hq]
theorem x_zast (hx : p.tables.exec = Jvm.exec) (hb : c.code = cc) (hK : kK D cs s) {b n : Nat} {f : Nat → Int32} (hc : H[b]? = some (vp_cell (cs 2) (n, .inl f))) {i : Int} {x : Int32} (hx01 : narrow .boolean (.int x) = .int x) (hi : 0 ≤ i ∧ i < n) (hn : n < 2147483648) (d : decode cc pc = .ok (.bastore, 1)) (kk : ∀ (H1 : Heap) (j : Nat), H1[b]? = some (vp_cell (cs 2) (n, .inl (upd f i.toNat x))) → H1.size = H.size → (∀ q, q ≠ b → H1[q]? = H[q]?) → W p l e R s m args below meth c H1 (locs ++ [⟨b, j⟩]) cells slots Q (F0 m (pc + 1) ls rest)) : W p l e R s m args below meth c H locs cells slots Q (F0 m pc ls (.int x :: .int (zI i) :: .ref b :: rest)) := by
  refine W.zast hx hb hc ((hK.1.2 2 _ rfl).1 n (fun j => .int (f j))) (fun q => by cases q) (by show ¬ (zI i < 0 ∨ (arrV _ _ _).slots.size ≤ _); rw [arrV_size]; exact zI_in hi hn) rfl rfl d fun H1 e z oq => ?_
  refine kk H1 _ ?_ z oq
  rw [e, zI_clamp (by omega), hx01]
  rw [vp_cell_i, vp_cell_i, arrV_store]
  congr 2
  funext q
  by_cases hq : q = i.toNat
  · subst hq
    simp [updV, upd]
  · simp [updV, upd, hq]
theorem x_cast (hx : p.tables.exec = Jvm.exec) (hb : c.code = cc) (hK : kK D cs s) {b n : Nat} {f : Nat → Int32} (hc : H[b]? = some (vp_cell (cs 3) (n, .inl f))) {i : Int} {x : Int32} (hx01 : narrow .char (.int x) = .int x) (hi : 0 ≤ i ∧ i < n) (hn : n < 2147483648) (d : decode cc pc = .ok (.castore, 1)) (kk : ∀ (H1 : Heap) (j : Nat), H1[b]? = some (vp_cell (cs 3) (n, .inl (upd f i.toNat x))) → H1.size = H.size → (∀ q, q ≠ b → H1[q]? = H[q]?) → W p l e R s m args below meth c H1 (locs ++ [⟨b, j⟩]) cells slots Q (F0 m (pc + 1) ls rest)) : W p l e R s m args below meth c H locs cells slots Q (F0 m pc ls (.int x :: .int (zI i) :: .ref b :: rest)) := by
  refine W.cast hx hb hc ((hK.1.2 3 _ rfl).1 n (fun j => .int (f j))) (fun q => by cases q) (by show ¬ (zI i < 0 ∨ (arrV _ _ _).slots.size ≤ _); rw [arrV_size]; exact zI_in hi hn) rfl rfl d fun H1 e z oq => ?_
  refine kk H1 _ ?_ z oq
  rw [e, zI_clamp (by omega), hx01]
  rw [vp_cell_i, vp_cell_i, arrV_store]
  congr 2
  funext q
  by_cases hq : q = i.toNat
  · subst hq
    simp [updV, upd]
  · simp [updV, upd, hq]
/-! calls -/
theorem x_rc {b ci : Nat} {fs : List Value} {q : vw_C} (hK : kK D cs s) (ho : va_at D vwCl (b, .inr (ci, fs)) H) (hc : vwCl[ci]? = some q) : ∃ cell : Cell, H[b]? = some cell ∧ cell.vm.isStatics = false ∧ s.vm.findClass q.1 = some cell.cls := va_recv hK.1 (va_at1 ho) (q0 := 0) hc rfl
theorem kW_pre {P : Heap → Prop} {as : List Value} (hK : kK D cs s) (hP : P H) : ∀ U : State, U.heap = H → s.WarmedH U.vm → va_Pc as (kW D cs P) as.toArray U := fun U hU hW => ⟨rfl, hK.warm hW, by rw [hU]; exact hP⟩
theorem x_retR {v : Option Value} {a : Array Value} {st0 : List Value} (hr : CallRun p l e R s m args below meth c H locs cells slots 0 0 (F0 m pc ls st0) rest (kS v a) (fun _ => False)) (kk : W p l e R s m args below meth c H locs cells slots Q (F0 m (pc + 3) ls (v.toList ++ rest))) : W p l e R s m args below meth c H locs cells slots Q (F0 m pc ls st0) := by
  intro T hT X
  obtain ⟨v2, st₀, t, T', L, h0, X', hL, e1, ⟨hv, hh⟩, st⟩ := hr T hT X
  cases hv
  obtain ⟨t2, a1, b1⟩ := kk T' (by rw [e1, hh, h0]) (Stand.forget X' (fun q h => (hL q h).elim))
  exact ⟨t2, st t2 a1, b1⟩
theorem x_retM {v : Option Value} {B : Heap → Prop} {A A0 : Nat → Prop} {H0 : Heap} {a : Array Value} {st0 : List Value} (hr : va_Run p l e R s m args below meth c H locs cells slots 0 0 (F0 m pc ls st0) rest (kQ v B A a) A) (hS : va_S A0 H0 H locs) (hA : ∀ q, A q → A0 q)
    (kk : ∀ (H1 : Heap) (locs1 : List Loc), B H1 → kF A H H1 → va_S A0 H0 H1 locs1 → W p l e R s m args below meth c H1 locs1 cells slots Q (F0 m (pc + 3) ls (v.toList ++ rest))) : W p l e R s m args below meth c H locs cells slots Q (F0 m pc ls st0) := by
  intro T hT X
  obtain ⟨v2, st₀, t, T', L, h0, X', hL, e1, e2, ⟨hv, hB, hz, hk⟩, st⟩ := hr T hT X
  cases hv
  rw [h0] at hz hk
  obtain ⟨t2, a1, b1⟩ := kk T'.heap (locs ++ L) (by rw [e1]; exact hB) ⟨by rw [e1]; exact hz, fun q h1 h2 => by rw [e1]; exact hk q h1 h2⟩
    ⟨Nat.le_trans hS.1 (by rw [e1]; exact hz), fun q h1 h2 => by rw [e1, hk q (Nat.lt_of_lt_of_le h1 hS.1) (fun z => h2 (hA q z))]; exact hS.2.1 q h1 h2, fun q hq => by
      rcases List.mem_append.mp hq with h | h
      · exact hS.2.2 q h
      · exact hA _ (hL q h)⟩ T' rfl X'
  exact ⟨t2, st t2 a1, b1⟩
variable {y : MethodName} {bytes : ByteArray} {maxL nL n index : Nat} {ret : Option FieldType} {ws : List Cond} {rm : Room} {Ts : List Cond} {own C : String} {b : Nat} {As : List Value} {P : Heap → Prop} {B : Heap → Prop} {A A0 : Nat → Prop} {H0 : Heap} {v : Value}
theorem x_callVR (S : CallFix p m c cc nL s args Ts own) (hK : kK D cs s) (hM : kR D cs l y ws rm (.ref b :: As) P (some v)) (cw : CallW R s args own C index y bytes maxL ret ws rm 0 0 n) (hrc : ∃ cell : Cell, H[b]? = some cell ∧ cell.vm.isStatics = false ∧ s.vm.findClass C = some cell.cls) (hP : P H) (hn : As.length = n) (hsize : ls.size = nL) (hW : (rest.map fun v => v.category).sum ≤ 8) (d : decode cc pc = .ok (.invokevirtual index, 3)) (hf : cells ≤ R.cells ∧ slots ≤ R.slots) (kk : W p l e R s m args below meth c H locs cells slots Q (F0 m (pc + 3) ls (v :: rest))) : W p l e R s m args below meth c H locs cells slots Q (F0 m pc ls (As.reverse ++ .ref b :: rest)) :=
  x_retR (W.runV S hM cw ⟨kW_blind, hrc, kW_pre hK hP⟩ rfl hn hsize rfl (lv_room hW) d hf) kk
theorem x_callSR (S : CallFix p m c cc nL s args Ts own) (hK : kK D cs s) (hM : kR D cs l y ws rm As P (some v)) (cw : CallB R s args own index y bytes maxL ret ws rm 0 0 n ∧ (Cond.static y).before args s = true) (hP : P H) (hn : As.length = n) (hsize : ls.size = nL) (hW : (rest.map fun v => v.category).sum ≤ 8) (d : decode cc pc = .ok (.invokestatic index, 3)) (hf : cells ≤ R.cells ∧ slots ≤ R.slots) (kk : W p l e R s m args below meth c H locs cells slots Q (F0 m (pc + 3) ls (v :: rest))) : W p l e R s m args below meth c H locs cells slots Q (F0 m pc ls (As.reverse ++ rest)) :=
  x_retR (W.runS S hM cw ⟨kW_blind, kW_pre hK hP⟩ rfl hn hsize rfl (lv_room hW) d hf) kk
theorem x_callVM (S : CallFix p m c cc nL s args Ts own) (hK : kK D cs s) (hM : kM D cs l y ws rm (.ref b :: As) P (some v) B A) (cw : CallW R s args own C index y bytes maxL ret ws rm 0 0 n) (hrc : ∃ cell : Cell, H[b]? = some cell ∧ cell.vm.isStatics = false ∧ s.vm.findClass C = some cell.cls) (hP : P H) (hn : As.length = n) (hsize : ls.size = nL) (hW : (rest.map fun v => v.category).sum ≤ 8) (d : decode cc pc = .ok (.invokevirtual index, 3)) (hf : cells ≤ R.cells ∧ slots ≤ R.slots) (hS : va_S A0 H0 H locs) (hA : ∀ q, A q → A0 q)
    (kk : ∀ (H1 : Heap) (locs1 : List Loc), B H1 → kF A H H1 → va_S A0 H0 H1 locs1 → W p l e R s m args below meth c H1 locs1 cells slots Q (F0 m (pc + 3) ls (v :: rest))) : W p l e R s m args below meth c H locs cells slots Q (F0 m pc ls (As.reverse ++ .ref b :: rest)) :=
  x_retM (va_runV S hM cw ⟨kW_blind, hrc, kW_pre hK hP⟩ rfl hn hsize rfl (lv_room hW) d hf) hS hA kk
theorem x_callVMn (S : CallFix p m c cc nL s args Ts own) (hK : kK D cs s) (hM : kM D cs l y ws rm (.ref b :: As) P none B A) (cw : CallW R s args own C index y bytes maxL ret ws rm 0 0 n) (hrc : ∃ cell : Cell, H[b]? = some cell ∧ cell.vm.isStatics = false ∧ s.vm.findClass C = some cell.cls) (hP : P H) (hn : As.length = n) (hsize : ls.size = nL) (hW : (rest.map fun v => v.category).sum ≤ 8) (d : decode cc pc = .ok (.invokevirtual index, 3)) (hf : cells ≤ R.cells ∧ slots ≤ R.slots) (hS : va_S A0 H0 H locs) (hA : ∀ q, A q → A0 q)
    (kk : ∀ (H1 : Heap) (locs1 : List Loc), B H1 → kF A H H1 → va_S A0 H0 H1 locs1 → W p l e R s m args below meth c H1 locs1 cells slots Q (F0 m (pc + 3) ls rest)) : W p l e R s m args below meth c H locs cells slots Q (F0 m pc ls (As.reverse ++ .ref b :: rest)) :=
  x_retM (va_runV S hM cw ⟨kW_blind, hrc, kW_pre hK hP⟩ rfl hn hsize rfl (lv_room hW) d hf) hS hA kk
/-! ends -/
theorem x_iretR (hx : p.tables.exec = Jvm.exec) (hb : c.code = cc) (hr : meth.sig.returnType = some .int) (hlocks : meth.locks = false) {e0 e1 : Int} (he : e0 = e1) (hH : H = s.heap) (d : decode cc pc = .ok (.ireturn, 1)) : W p l e R s m args below meth c H [] 0 0 (MQ below (kS (some (.int (zI e1)))) args s 0 0 (fun _ => False)) (F0 m pc ls [.int (zI e0)]) := by
  subst he
  exact W.iret (v := zI e0) hx hb hr (fun t ht _ => ⟨rfl, by rw [ht, hH]⟩) (fun _ h => by cases h) d hlocks
theorem x_zretR (hx : p.tables.exec = Jvm.exec) (hb : c.code = cc) (hr : meth.sig.returnType = some .boolean) (hlocks : meth.locks = false) {e0 e1 : Int} (he : e0 = e1) (h01 : e0 = 0 ∨ e0 = 1) (hH : H = s.heap) (d : decode cc pc = .ok (.ireturn, 1)) : W p l e R s m args below meth c H [] 0 0 (MQ below (kS (some (.int (zI e1)))) args s 0 0 (fun _ => False)) (F0 m pc ls [.int (zI e0)]) := by
  subst he
  exact W.zret (v := zI e0) hx hb hr (by rcases h01 with h | h <;> subst h <;> rfl) (fun t ht _ => ⟨rfl, by rw [ht, hH]⟩) (fun _ h => by cases h) d hlocks
theorem x_lretR (hx : p.tables.exec = Jvm.exec) (hb : c.code = cc) (hr : meth.sig.returnType = some .long) (hlocks : meth.locks = false) {e0 e1 : Int} (he : e0 = e1) (hH : H = s.heap) (d : decode cc pc = .ok (.lreturn, 1)) : W p l e R s m args below meth c H [] 0 0 (MQ below (kS (some (.long (zL e1)))) args s 0 0 (fun _ => False)) (F0 m pc ls [.long (zL e0)]) := by
  subst he
  exact W.lret (v := zL e0) hx hb hr (fun t ht _ => ⟨rfl, by rw [ht, hH]⟩) (fun _ h => by cases h) d hlocks
theorem x_aretR (hx : p.tables.exec = Jvm.exec) (hb : c.code = cc) {rt : FieldType} (hr : meth.sig.returnType = some rt) (hrt : (∃ n, rt = .object n) ∨ ∃ t, rt = .array t) (hlocks : meth.locks = false) {v0 v1 : Value} (he : v0 = v1) (hv : v0 = .null ∨ ∃ a, v0 = .ref a) (hH : H = s.heap) (d : decode cc pc = .ok (.areturn, 1)) : W p l e R s m args below meth c H [] 0 0 (MQ below (kS (some v1)) args s 0 0 (fun _ => False)) (F0 m pc ls [v0]) := by
  subst he
  exact W.aret hx hb hr hrt hv (fun t ht _ => ⟨rfl, by rw [ht, hH]⟩) (fun _ h => by cases h) d hlocks
theorem x_iretM (hx : p.tables.exec = Jvm.exec) (hb : c.code = cc) (hr : meth.sig.returnType = some .int) (hlocks : meth.locks = false) {e0 e1 : Int} (he : e0 = e1) (hB : B H) (hS : va_S A s.heap H locs) (d : decode cc pc = .ok (.ireturn, 1)) : W p l e R s m args below meth c H locs 0 0 (MQ below (kQ (some (.int (zI e1))) B A) args s 0 0 A) (F0 m pc ls [.int (zI e0)]) := by
  subst he
  exact W.iret (v := zI e0) hx hb hr (fun t ht _ => ⟨rfl, by rw [ht]; exact hB, hS.F ht⟩) hS.2.2 d hlocks
theorem x_vretM (hx : p.tables.exec = Jvm.exec) (hb : c.code = cc) (hr : meth.sig.returnType = none) (hlocks : meth.locks = false) (hB : B H) (hS : va_S A s.heap H locs) (d : decode cc pc = .ok (.return_, 1)) : W p l e R s m args below meth c H locs 0 0 (MQ below (kQ none B A) args s 0 0 A) (F0 m pc ls []) :=
  W.vret hx hb hr (fun t ht _ => ⟨rfl, by rw [ht]; exact hB, hS.F ht⟩) hS.2.2 d hlocks
theorem x_aretM (hx : p.tables.exec = Jvm.exec) (hb : c.code = cc) {rt : FieldType} (hr : meth.sig.returnType = some rt) (hrt : (∃ n, rt = .object n) ∨ ∃ t, rt = .array t) (hlocks : meth.locks = false) {v0 v1 : Value} (he : v0 = v1) (hv : v0 = .null ∨ ∃ a, v0 = .ref a) (hB : B H) (hS : va_S A s.heap H locs) (d : decode cc pc = .ok (.areturn, 1)) : W p l e R s m args below meth c H locs 0 0 (MQ below (kQ (some v1) B A) args s 0 0 A) (F0 m pc ls [v0]) := by
  subst he
  exact W.aret hx hb hr hrt hv (fun t ht _ => ⟨rfl, by rw [ht]; exact hB, hS.F ht⟩) hS.2.2 d hlocks
end XB
end
section
/-! blocks: n cells at the addresses a 0 .. a (n - 1) -/
def bAt (D : va_G) (n : Int) (a : Int → Nat) (cell : Int → va_E) (H : Heap) : Prop := ∀ i : Int, 0 ≤ i → i < n → va_at D vwCl (a i, cell i) H
def bI (n : Int) (a : Int → Nat) : Prop := ∀ i j : Int, 0 ≤ i → i < n → 0 ≤ j → j < n → a i = a j → i = j
def bC (n : Int) (a : Int → Nat) : Nat → Prop := fun q => ∃ i : Int, 0 ≤ i ∧ i < n ∧ q = a i
theorem bC_of {n : Int} {a : Int → Nat} {i : Int} (h0 : 0 ≤ i) (h1 : i < n) : bC n a (a i) := ⟨i, h0, h1, rfl⟩
theorem bAt_set {D : va_G} {n : Int} {a : Int → Nat} {cell cell' : Int → va_E} {H H1 : Heap} {j : Int} (hM : bAt D n a cell H) (hI : bI n a) (h0 : 0 ≤ j) (hn : j < n) (hnew : va_at D vwCl (a j, cell' j) H1) (hsame : ∀ i : Int, i ≠ j → cell' i = cell i) (oq : ∀ q : Nat, q ≠ a j → H1[q]? = H[q]?) : bAt D n a cell' H1 := by
  intro i hi0 hi1
  by_cases h : i = j
  · subst h; exact hnew
  · rw [hsame i h]
    exact va_at.kept (hM i hi0 hi1) (oq _ (fun q => h (hI i j hi0 hi1 h0 hn q)))
theorem bAt_F {D : va_G} {A : Nat → Prop} {n : Int} {a : Int → Nat} {cell : Int → va_E} {H H1 : Heap} (hM : bAt D n a cell H) (hF : kF A H H1) (hA : ∀ i : Int, 0 ≤ i → i < n → ¬ A (a i)) : bAt D n a cell H1 := fun i h0 h1 => va_at_F (hM i h0 h1) hF (hA i h0 h1)
/-! the reference's cells: 0 the object, 1 s, 2 past, 3 slots, 4 isSaved, 5 pad; its numbers: σ pa sl sv pd, known kn, length ln -/
def mcell (cs : Nat → ClassId) (a : Int → Nat) (σ pa sl sv pd : Int → Int) (kn ln : Int) (i : Int) : va_E :=
  if i = 0 then .inr (6, [.ref (a 1), .ref (a 2), .int (zI kn), .ref (a 3), .ref (a 4), .ref (a 5), .int (zI ln)])
  else if i = 1 then .inl (cs 1, (276, .inr (.inl fun k : Nat => zL (σ k))))
  else if i = 2 then .inl (cs 1, (828, .inr (.inl fun k : Nat => zL (pa k))))
  else if i = 3 then .inl (cs 1, (276, .inr (.inl fun k : Nat => zL (sl k))))
  else if i = 4 then .inl (cs 2, (2, .inl fun k : Nat => zI (sv k)))
  else if i = 5 then .inl (cs 0, (80, .inl fun k : Nat => zI (pd k)))
  else .inl (cs 0, (0, .inl fun _ => 0))
def mAt (D : va_G) (cs : Nat → ClassId) (a : Int → Nat) (σ pa sl sv pd : Int → Int) (kn ln : Int) (H : Heap) : Prop := bAt D 6 a (mcell cs a σ pa sl sv pd kn ln) H
abbrev mI (a : Int → Nat) : Prop := bI 6 a
abbrev mC (a : Int → Nat) : Nat → Prop := bC 6 a
theorem updL_u (f : Int → Int) (i v : Int) (h : 0 ≤ i) : vp_updL (fun k : Nat => zL (f k)) i.toNat (zL v) = fun k : Nat => zL (up f i v k) := by
  funext k
  unfold vp_updL
  by_cases e : k = i.toNat
  · rw [if_pos e, up_e (by omega)]
  · rw [if_neg e, up_n (by omega)]
theorem updI_u (f : Int → Int) (i v : Int) (h : 0 ≤ i) : upd (fun k : Nat => zI (f k)) i.toNat (zI v) = fun k : Nat => zI (up f i v k) := by
  funext k
  unfold upd
  by_cases e : k = i.toNat
  · rw [if_pos e, up_e (by omega)]
  · rw [if_neg e, up_n (by omega)]
section MB
variable {D : va_G} {cs : Nat → ClassId} {a : Int → Nat} {σ pa sl sv pd : Int → Int} {kn ln : Int} {H H1 : Heap}
theorem mAt_0 (h : mAt D cs a σ pa sl sv pd kn ln H) : va_at D vwCl (a 0, .inr (6, [.ref (a 1), .ref (a 2), .int (zI kn), .ref (a 3), .ref (a 4), .ref (a 5), .int (zI ln)])) H := h 0 (by decide) (by decide)
theorem mAt_1 (h : mAt D cs a σ pa sl sv pd kn ln H) : H[a 1]? = some (vp_cell (cs 1) (276, .inr (.inl fun k : Nat => zL (σ k)))) := h 1 (by decide) (by decide)
theorem mAt_2 (h : mAt D cs a σ pa sl sv pd kn ln H) : H[a 2]? = some (vp_cell (cs 1) (828, .inr (.inl fun k : Nat => zL (pa k)))) := h 2 (by decide) (by decide)
theorem mAt_3 (h : mAt D cs a σ pa sl sv pd kn ln H) : H[a 3]? = some (vp_cell (cs 1) (276, .inr (.inl fun k : Nat => zL (sl k)))) := h 3 (by decide) (by decide)
theorem mAt_4 (h : mAt D cs a σ pa sl sv pd kn ln H) : H[a 4]? = some (vp_cell (cs 2) (2, .inl fun k : Nat => zI (sv k))) := h 4 (by decide) (by decide)
theorem mAt_5 (h : mAt D cs a σ pa sl sv pd kn ln H) : H[a 5]? = some (vp_cell (cs 0) (80, .inl fun k : Nat => zI (pd k))) := h 5 (by decide) (by decide)
end MB
section MR
variable {p : Program} {l : Launch} {e : Env} {R : Room} {s : State} {m : MethodId} {args : Array Value} {below : List Frame} {meth : Method} {c : Code} {H : Heap} {locs : List Loc} {cells slots : Nat} {Q : State → Prop} {cc : ByteArray} {pc : Nat} {ls : Array Slot} {rest : List Value} {D : va_G} {cs : Nat → ClassId}
variable {a : Int → Nat} {σ pa sl sv pd : Int → Int} {kn ln : Int} {Ts : List Cond} {own : String} {nL index : Nat} {H0 : Heap}
theorem m_g_s (S : CallFix p m c cc nL s args Ts own) (hin : ∀ w ∈ wsX70, w ∈ Ts) (hK : kK D cs s) (hM : mAt D cs a σ pa sl sv pd kn ln H) (hlink : (Cond.fieldLink own index "EnergyDiscsModel" "s" "[J").before args s = true) (d : decode cc pc = .ok (.getfield index, 3)) (kk : W p l e R s m args below meth c H locs cells slots Q (F0 m (pc + 3) ls (.ref (a 1) :: rest))) : W p l e R s m args below meth c H locs cells slots Q (F0 m pc ls (.ref (a 0) :: rest)) := x_get (C := RX7) (T := TX7) (N := 7) S.1 S.2.1 S.2.2.2.2 hin S.2.2.2.1 hK (mAt_0 hM) rfl 0 (by decide) hlink rfl d kk
theorem m_g_past (S : CallFix p m c cc nL s args Ts own) (hin : ∀ w ∈ wsX70, w ∈ Ts) (hK : kK D cs s) (hM : mAt D cs a σ pa sl sv pd kn ln H) (hlink : (Cond.fieldLink own index "EnergyDiscsModel" "past" "[J").before args s = true) (d : decode cc pc = .ok (.getfield index, 3)) (kk : W p l e R s m args below meth c H locs cells slots Q (F0 m (pc + 3) ls (.ref (a 2) :: rest))) : W p l e R s m args below meth c H locs cells slots Q (F0 m pc ls (.ref (a 0) :: rest)) := x_get (C := RX7) (T := TX7) (N := 7) S.1 S.2.1 S.2.2.2.2 hin S.2.2.2.1 hK (mAt_0 hM) rfl 1 (by decide) hlink rfl d kk
theorem m_g_known (S : CallFix p m c cc nL s args Ts own) (hin : ∀ w ∈ wsX70, w ∈ Ts) (hK : kK D cs s) (hM : mAt D cs a σ pa sl sv pd kn ln H) (hlink : (Cond.fieldLink own index "EnergyDiscsModel" "known" "I").before args s = true) (d : decode cc pc = .ok (.getfield index, 3)) (kk : W p l e R s m args below meth c H locs cells slots Q (F0 m (pc + 3) ls (.int (zI kn) :: rest))) : W p l e R s m args below meth c H locs cells slots Q (F0 m pc ls (.ref (a 0) :: rest)) := x_get (C := RX7) (T := TX7) (N := 7) S.1 S.2.1 S.2.2.2.2 hin S.2.2.2.1 hK (mAt_0 hM) rfl 2 (by decide) hlink rfl d kk
theorem m_p_known (S : CallFix p m c cc nL s args Ts own) (hin : ∀ w ∈ wsX70, w ∈ Ts) (hK : kK D cs s) (hM : mAt D cs a σ pa sl sv pd kn ln H) (hI : mI a) (hS : va_S (mC a) H0 H locs) (hlink : (Cond.fieldLink own index "EnergyDiscsModel" "known" "I").before args s = true) {v : Int} (d : decode cc pc = .ok (.putfield index, 3)) (kk : ∀ (H1 : Heap) (locs1 : List Loc), mAt D cs a σ pa sl sv pd v ln H1 → va_S (mC a) H0 H1 locs1 → W p l e R s m args below meth c H1 locs1 cells slots Q (F0 m (pc + 3) ls rest)) : W p l e R s m args below meth c H locs cells slots Q (F0 m pc ls (.int (zI v) :: .ref (a 0) :: rest)) :=
  x_put (C := RX7) (T := TX7) (N := 7) S.1 S.2.1 S.2.2.2.2 hin tyX7 tyX7_ok nmX7 S.2.2.2.1 hK (mAt_0 hM) rfl 2 (by decide) hlink rfl rfl rfl (by show 2 < 7; decide) d (fun H1 j e z oq => kk H1 _ (bAt_set (j := 0) hM hI (by decide) (by decide) e (fun i hi => by simp only [mcell, hi, if_false]) oq) (hS.put z oq (bC_of (by decide) (by decide))))
theorem m_g_slots (S : CallFix p m c cc nL s args Ts own) (hin : ∀ w ∈ wsX70, w ∈ Ts) (hK : kK D cs s) (hM : mAt D cs a σ pa sl sv pd kn ln H) (hlink : (Cond.fieldLink own index "EnergyDiscsModel" "slots" "[J").before args s = true) (d : decode cc pc = .ok (.getfield index, 3)) (kk : W p l e R s m args below meth c H locs cells slots Q (F0 m (pc + 3) ls (.ref (a 3) :: rest))) : W p l e R s m args below meth c H locs cells slots Q (F0 m pc ls (.ref (a 0) :: rest)) := x_get (C := RX7) (T := TX7) (N := 7) S.1 S.2.1 S.2.2.2.2 hin S.2.2.2.1 hK (mAt_0 hM) rfl 3 (by decide) hlink rfl d kk
theorem m_g_isSaved (S : CallFix p m c cc nL s args Ts own) (hin : ∀ w ∈ wsX70, w ∈ Ts) (hK : kK D cs s) (hM : mAt D cs a σ pa sl sv pd kn ln H) (hlink : (Cond.fieldLink own index "EnergyDiscsModel" "isSaved" "[Z").before args s = true) (d : decode cc pc = .ok (.getfield index, 3)) (kk : W p l e R s m args below meth c H locs cells slots Q (F0 m (pc + 3) ls (.ref (a 4) :: rest))) : W p l e R s m args below meth c H locs cells slots Q (F0 m pc ls (.ref (a 0) :: rest)) := x_get (C := RX7) (T := TX7) (N := 7) S.1 S.2.1 S.2.2.2.2 hin S.2.2.2.1 hK (mAt_0 hM) rfl 4 (by decide) hlink rfl d kk
theorem m_g_pad (S : CallFix p m c cc nL s args Ts own) (hin : ∀ w ∈ wsX70, w ∈ Ts) (hK : kK D cs s) (hM : mAt D cs a σ pa sl sv pd kn ln H) (hlink : (Cond.fieldLink own index "EnergyDiscsModel" "pad" "[I").before args s = true) (d : decode cc pc = .ok (.getfield index, 3)) (kk : W p l e R s m args below meth c H locs cells slots Q (F0 m (pc + 3) ls (.ref (a 5) :: rest))) : W p l e R s m args below meth c H locs cells slots Q (F0 m pc ls (.ref (a 0) :: rest)) := x_get (C := RX7) (T := TX7) (N := 7) S.1 S.2.1 S.2.2.2.2 hin S.2.2.2.1 hK (mAt_0 hM) rfl 5 (by decide) hlink rfl d kk
theorem m_g_length (S : CallFix p m c cc nL s args Ts own) (hin : ∀ w ∈ wsX70, w ∈ Ts) (hK : kK D cs s) (hM : mAt D cs a σ pa sl sv pd kn ln H) (hlink : (Cond.fieldLink own index "EnergyDiscsModel" "length" "I").before args s = true) (d : decode cc pc = .ok (.getfield index, 3)) (kk : W p l e R s m args below meth c H locs cells slots Q (F0 m (pc + 3) ls (.int (zI ln) :: rest))) : W p l e R s m args below meth c H locs cells slots Q (F0 m pc ls (.ref (a 0) :: rest)) := x_get (C := RX7) (T := TX7) (N := 7) S.1 S.2.1 S.2.2.2.2 hin S.2.2.2.1 hK (mAt_0 hM) rfl 6 (by decide) hlink rfl d kk
theorem m_p_length (S : CallFix p m c cc nL s args Ts own) (hin : ∀ w ∈ wsX70, w ∈ Ts) (hK : kK D cs s) (hM : mAt D cs a σ pa sl sv pd kn ln H) (hI : mI a) (hS : va_S (mC a) H0 H locs) (hlink : (Cond.fieldLink own index "EnergyDiscsModel" "length" "I").before args s = true) {v : Int} (d : decode cc pc = .ok (.putfield index, 3)) (kk : ∀ (H1 : Heap) (locs1 : List Loc), mAt D cs a σ pa sl sv pd kn v H1 → va_S (mC a) H0 H1 locs1 → W p l e R s m args below meth c H1 locs1 cells slots Q (F0 m (pc + 3) ls rest)) : W p l e R s m args below meth c H locs cells slots Q (F0 m pc ls (.int (zI v) :: .ref (a 0) :: rest)) :=
  x_put (C := RX7) (T := TX7) (N := 7) S.1 S.2.1 S.2.2.2.2 hin tyX7 tyX7_ok nmX7 S.2.2.2.1 hK (mAt_0 hM) rfl 6 (by decide) hlink rfl rfl rfl (by show 6 < 7; decide) d (fun H1 j e z oq => kk H1 _ (bAt_set (j := 0) hM hI (by decide) (by decide) e (fun i hi => by simp only [mcell, hi, if_false]) oq) (hS.put z oq (bC_of (by decide) (by decide))))
theorem m_l_s (S : CallFix p m c cc nL s args Ts own) (hK : kK D cs s) (hM : mAt D cs a σ pa sl sv pd kn ln H) {i : Int} (hi : 0 ≤ i ∧ i < 276) (d : decode cc pc = .ok (.laload, 1)) (kk : W p l e R s m args below meth c H locs cells slots Q (F0 m (pc + 1) ls (.long (zL (σ i)) :: rest))) : W p l e R s m args below meth c H locs cells slots Q (F0 m pc ls (.int (zI i) :: .ref (a 1) :: rest)) := x_lald S.1 S.2.1 hK (mAt_1 hM) hi (by decide) d (by rw [show ((i.toNat : Nat) : Int) = i by omega]; exact kk)
theorem m_s_s (S : CallFix p m c cc nL s args Ts own) (hK : kK D cs s) (hM : mAt D cs a σ pa sl sv pd kn ln H) (hI : mI a) (hS : va_S (mC a) H0 H locs) {i v : Int} (hi : 0 ≤ i ∧ i < 276) (d : decode cc pc = .ok (.lastore, 1)) (kk : ∀ (H1 : Heap) (locs1 : List Loc), mAt D cs a (up σ i v) pa sl sv pd kn ln H1 → va_S (mC a) H0 H1 locs1 → W p l e R s m args below meth c H1 locs1 cells slots Q (F0 m (pc + 1) ls rest)) : W p l e R s m args below meth c H locs cells slots Q (F0 m pc ls (.long (zL v) :: .int (zI i) :: .ref (a 1) :: rest)) :=
  x_last S.1 S.2.1 hK (mAt_1 hM) hi (by decide) d (fun H1 j e z oq => kk H1 _ (bAt_set (j := 1) hM hI (by decide) (by decide) (by rw [updL_u _ _ _ hi.1] at e; exact e) (fun i hi => by simp only [mcell, hi, if_false]) oq) (hS.put z oq (bC_of (by decide) (by decide))))
theorem m_l_past (S : CallFix p m c cc nL s args Ts own) (hK : kK D cs s) (hM : mAt D cs a σ pa sl sv pd kn ln H) {i : Int} (hi : 0 ≤ i ∧ i < 828) (d : decode cc pc = .ok (.laload, 1)) (kk : W p l e R s m args below meth c H locs cells slots Q (F0 m (pc + 1) ls (.long (zL (pa i)) :: rest))) : W p l e R s m args below meth c H locs cells slots Q (F0 m pc ls (.int (zI i) :: .ref (a 2) :: rest)) := x_lald S.1 S.2.1 hK (mAt_2 hM) hi (by decide) d (by rw [show ((i.toNat : Nat) : Int) = i by omega]; exact kk)
theorem m_s_past (S : CallFix p m c cc nL s args Ts own) (hK : kK D cs s) (hM : mAt D cs a σ pa sl sv pd kn ln H) (hI : mI a) (hS : va_S (mC a) H0 H locs) {i v : Int} (hi : 0 ≤ i ∧ i < 828) (d : decode cc pc = .ok (.lastore, 1)) (kk : ∀ (H1 : Heap) (locs1 : List Loc), mAt D cs a σ (up pa i v) sl sv pd kn ln H1 → va_S (mC a) H0 H1 locs1 → W p l e R s m args below meth c H1 locs1 cells slots Q (F0 m (pc + 1) ls rest)) : W p l e R s m args below meth c H locs cells slots Q (F0 m pc ls (.long (zL v) :: .int (zI i) :: .ref (a 2) :: rest)) :=
  x_last S.1 S.2.1 hK (mAt_2 hM) hi (by decide) d (fun H1 j e z oq => kk H1 _ (bAt_set (j := 2) hM hI (by decide) (by decide) (by rw [updL_u _ _ _ hi.1] at e; exact e) (fun i hi => by simp only [mcell, hi, if_false]) oq) (hS.put z oq (bC_of (by decide) (by decide))))
theorem m_l_slots (S : CallFix p m c cc nL s args Ts own) (hK : kK D cs s) (hM : mAt D cs a σ pa sl sv pd kn ln H) {i : Int} (hi : 0 ≤ i ∧ i < 276) (d : decode cc pc = .ok (.laload, 1)) (kk : W p l e R s m args below meth c H locs cells slots Q (F0 m (pc + 1) ls (.long (zL (sl i)) :: rest))) : W p l e R s m args below meth c H locs cells slots Q (F0 m pc ls (.int (zI i) :: .ref (a 3) :: rest)) := x_lald S.1 S.2.1 hK (mAt_3 hM) hi (by decide) d (by rw [show ((i.toNat : Nat) : Int) = i by omega]; exact kk)
theorem m_s_slots (S : CallFix p m c cc nL s args Ts own) (hK : kK D cs s) (hM : mAt D cs a σ pa sl sv pd kn ln H) (hI : mI a) (hS : va_S (mC a) H0 H locs) {i v : Int} (hi : 0 ≤ i ∧ i < 276) (d : decode cc pc = .ok (.lastore, 1)) (kk : ∀ (H1 : Heap) (locs1 : List Loc), mAt D cs a σ pa (up sl i v) sv pd kn ln H1 → va_S (mC a) H0 H1 locs1 → W p l e R s m args below meth c H1 locs1 cells slots Q (F0 m (pc + 1) ls rest)) : W p l e R s m args below meth c H locs cells slots Q (F0 m pc ls (.long (zL v) :: .int (zI i) :: .ref (a 3) :: rest)) :=
  x_last S.1 S.2.1 hK (mAt_3 hM) hi (by decide) d (fun H1 j e z oq => kk H1 _ (bAt_set (j := 3) hM hI (by decide) (by decide) (by rw [updL_u _ _ _ hi.1] at e; exact e) (fun i hi => by simp only [mcell, hi, if_false]) oq) (hS.put z oq (bC_of (by decide) (by decide))))
theorem m_l_isSaved (S : CallFix p m c cc nL s args Ts own) (hK : kK D cs s) (hM : mAt D cs a σ pa sl sv pd kn ln H) {i : Int} (hi : 0 ≤ i ∧ i < 2) (d : decode cc pc = .ok (.baload, 1)) (kk : W p l e R s m args below meth c H locs cells slots Q (F0 m (pc + 1) ls (.int (zI (sv i)) :: rest))) : W p l e R s m args below meth c H locs cells slots Q (F0 m pc ls (.int (zI i) :: .ref (a 4) :: rest)) := x_zald S.1 S.2.1 hK (mAt_4 hM) hi (by decide) d (by rw [show ((i.toNat : Nat) : Int) = i by omega]; exact kk)
theorem m_s_isSaved (S : CallFix p m c cc nL s args Ts own) (hK : kK D cs s) (hM : mAt D cs a σ pa sl sv pd kn ln H) (hI : mI a) (hS : va_S (mC a) H0 H locs) {i v : Int} (h01 : narrow .boolean (.int (zI v)) = .int (zI v)) (hi : 0 ≤ i ∧ i < 2) (d : decode cc pc = .ok (.bastore, 1)) (kk : ∀ (H1 : Heap) (locs1 : List Loc), mAt D cs a σ pa sl (up sv i v) pd kn ln H1 → va_S (mC a) H0 H1 locs1 → W p l e R s m args below meth c H1 locs1 cells slots Q (F0 m (pc + 1) ls rest)) : W p l e R s m args below meth c H locs cells slots Q (F0 m pc ls (.int (zI v) :: .int (zI i) :: .ref (a 4) :: rest)) :=
  x_zast S.1 S.2.1 hK (mAt_4 hM) h01 hi (by decide) d (fun H1 j e z oq => kk H1 _ (bAt_set (j := 4) hM hI (by decide) (by decide) (by rw [updI_u _ _ _ hi.1] at e; exact e) (fun i hi => by simp only [mcell, hi, if_false]) oq) (hS.put z oq (bC_of (by decide) (by decide))))
theorem m_l_pad (S : CallFix p m c cc nL s args Ts own) (hK : kK D cs s) (hM : mAt D cs a σ pa sl sv pd kn ln H) {i : Int} (hi : 0 ≤ i ∧ i < 80) (d : decode cc pc = .ok (.iaload, 1)) (kk : W p l e R s m args below meth c H locs cells slots Q (F0 m (pc + 1) ls (.int (zI (pd i)) :: rest))) : W p l e R s m args below meth c H locs cells slots Q (F0 m pc ls (.int (zI i) :: .ref (a 5) :: rest)) := x_iald S.1 S.2.1 hK (mAt_5 hM) hi (by decide) d (by rw [show ((i.toNat : Nat) : Int) = i by omega]; exact kk)
theorem m_s_pad (S : CallFix p m c cc nL s args Ts own) (hK : kK D cs s) (hM : mAt D cs a σ pa sl sv pd kn ln H) (hI : mI a) (hS : va_S (mC a) H0 H locs) {i v : Int} (hi : 0 ≤ i ∧ i < 80) (d : decode cc pc = .ok (.iastore, 1)) (kk : ∀ (H1 : Heap) (locs1 : List Loc), mAt D cs a σ pa sl sv (up pd i v) kn ln H1 → va_S (mC a) H0 H1 locs1 → W p l e R s m args below meth c H1 locs1 cells slots Q (F0 m (pc + 1) ls rest)) : W p l e R s m args below meth c H locs cells slots Q (F0 m pc ls (.int (zI v) :: .int (zI i) :: .ref (a 5) :: rest)) :=
  x_iast S.1 S.2.1 hK (mAt_5 hM) hi (by decide) d (fun H1 j e z oq => kk H1 _ (bAt_set (j := 5) hM hI (by decide) (by decide) (by rw [updI_u _ _ _ hi.1] at e; exact e) (fun i hi => by simp only [mcell, hi, if_false]) oq) (hS.put z oq (bC_of (by decide) (by decide))))
end MR
end
section
set_option maxHeartbeats 4000000 in
set_option maxRecDepth 100000 in
theorem c_X7_in (l : Launch) (D : va_G) (cs : Nat → ClassId) (v : Int) (lo : Int) (hi : Int) (hv : -2147483648 ≤ v ∧ v < 2147483648) (hlo : -2147483648 ≤ lo ∧ lo < 2147483648) (hhi : -2147483648 ≤ hi ∧ hi < 2147483648) : kR D cs l yX7_in wsX7_in ({ frames := 0, cells := 0, slots := 0, locals := 0 } : Room) [.int (zI v), .int (zI lo), .int (zI hi)] (fun _ => True) (some (.int (zI (if lo ≤ v ∧ v ≤ hi then 1 else 0)))) := by
  refine Met.ofW (cc := cX7_in) (maxL := 3) (ret := (some .boolean)) (by decide) rfl ?_
  intro p e s m args below meth c s₁ B hml hv
  obtain ⟨rfl, hK, -⟩ := hv
  have hx := B.exec
  have hb := B.bytes
  have hr := B.returns
  have hts := atoms_spec (ws := wsX7_in) B.pre
  have hown : s.vm.findClass RX7 = some m.cls := findClass_of_methodNamed B.named
  have hlocks := B.notSynchronized
  have S : CallFix p m c cX7_in 3 s (([.int (zI v), .int (zI lo), .int (zI hi)] : List Value)).toArray wsX7_in RX7 := ⟨hx, hb, hml, hown, hts⟩
  have hl := lv_entry ([.int (zI v), .int (zI lo), .int (zI hi)]) (n := 3) (Nat.le_of_ble_eq_true rfl)
  rw [lg_entry_eq]
  generalize (lg_sl ([.int (zI v), .int (zI lo), .int (zI hi)]) ++ List.replicate (3 - (lg_sl ([.int (zI v), .int (zI lo), .int (zI hi)])).length) Slot.unset).toArray = ls at hl ⊢
  have hl : lv_has ls 3 [(0, .int (zI v)), (1, .int (zI lo)), (2, .int (zI hi))] := hl
  refine lv_iload_n hx hb dX7_in_0 rfl (lv_at hl 0 rfl) ?_
  refine lv_iload_n hx hb dX7_in_1 rfl (lv_at hl 1 rfl) ?_
  refine x_icmp_lt (tgt := 14) hx hb dX7_in_2 (by decide) (by omega) (by omega) (fun c_2 => ?_) (fun c_2 => ?_)
  · refine x_iconst hx hb dX7_in_14 ?_
    exact x_zretR hx hb hr hlocks (by first | (rw [if_pos (by omega)]) | (rw [if_neg (by omega)])) (by first | decide | exact Or.inl rfl | exact Or.inr rfl | (split <;> simp)) rfl dX7_in_15
  · refine lv_iload_n hx hb dX7_in_5 rfl (lv_at hl 0 rfl) ?_
    refine lv_iload_n hx hb dX7_in_6 rfl (lv_at hl 2 rfl) ?_
    refine x_icmp_gt (tgt := 14) hx hb dX7_in_7 (by decide) (by omega) (by omega) (fun c_7 => ?_) (fun c_7 => ?_)
    · refine x_iconst hx hb dX7_in_14 ?_
      exact x_zretR hx hb hr hlocks (by first | (rw [if_pos (by omega)]) | (rw [if_neg (by omega)])) (by first | decide | exact Or.inl rfl | exact Or.inr rfl | (split <;> simp)) rfl dX7_in_15
    · refine x_iconst hx hb dX7_in_10 ?_
      refine lv_goto (tgt := 15) hx hb dX7_in_11 (by decide) ?_
      exact x_zretR hx hb hr hlocks (by first | (rw [if_pos (by omega)]) | (rw [if_neg (by omega)])) (by first | decide | exact Or.inl rfl | exact Or.inr rfl | (split <;> simp)) rfl dX7_in_15
set_option maxHeartbeats 4000000 in
set_option maxRecDepth 100000 in
theorem c_X7_num (l : Launch) (D : va_G) (cs : Nat → ClassId) (a : Int → Nat) (σ : Int → Int) (pa : Int → Int) (sl : Int → Int) (sv : Int → Int) (pd : Int → Int) (kn : Int) (ln : Int) (w : Int) (hw : 0 ≤ w ∧ w < 276) : kR D cs l yX7_num wsX7_num ({ frames := 0, cells := 0, slots := 0, locals := 0 } : Room) [.ref (a 0), .int (zI w)] (fun H => mAt D cs a σ pa sl sv pd kn ln H) (some (.int (zI (σ w)))) := by
  refine Met.ofW (cc := cX7_num) (maxL := 2) (ret := (some .int)) (by decide) rfl ?_
  intro p e s m args below meth c s₁ B hml hv
  obtain ⟨rfl, hK, hM⟩ := hv
  have hx := B.exec
  have hb := B.bytes
  have hr := B.returns
  have hts := atoms_spec (ws := wsX7_num) B.pre
  have hown : s.vm.findClass RX7 = some m.cls := findClass_of_methodNamed B.named
  have hlocks := B.notSynchronized
  have S : CallFix p m c cX7_num 2 s (([.ref (a 0), .int (zI w)] : List Value)).toArray wsX7_num RX7 := ⟨hx, hb, hml, hown, hts⟩
  have hin7 : ∀ w ∈ wsX70, w ∈ wsX7_num := by decide +kernel
  have hl := lv_entry ([.ref (a 0), .int (zI w)]) (n := 2) (Nat.le_of_ble_eq_true rfl)
  rw [lg_entry_eq]
  generalize (lg_sl ([.ref (a 0), .int (zI w)]) ++ List.replicate (2 - (lg_sl ([.ref (a 0), .int (zI w)])).length) Slot.unset).toArray = ls at hl ⊢
  have hl : lv_has ls 2 [(0, .ref (a 0)), (1, .int (zI w))] := hl
  refine lv_aload_n hx hb dX7_num_0 rfl (lv_at hl 0 rfl) ?_
  refine m_g_s S hin7 hK hM (hts (.fieldLink RX7 7 "EnergyDiscsModel" "s" "[J") (by decide +kernel)) dX7_num_1 ?_
  refine lv_iload_n hx hb dX7_num_4 rfl (lv_at hl 1 rfl) ?_
  refine m_l_s S hK hM (by omega) dX7_num_5 ?_
  refine x_l2i hx hb dX7_num_6 ?_
  exact x_iretR hx hb hr hlocks (by first | rfl | omega) rfl dX7_num_7
set_option maxHeartbeats 4000000 in
set_option maxRecDepth 100000 in
theorem c_X7_isMeter (l : Launch) (D : va_G) (cs : Nat → ClassId) (a : Int → Nat) (σ : Int → Int) (pa : Int → Int) (sl : Int → Int) (sv : Int → Int) (pd : Int → Int) (kn : Int) (ln : Int) (k : Int) (h7 : 0 ≤ σ 7 ∧ σ 7 ≤ 7) (hk : -2147483648 ≤ k ∧ k < 2147483648) : kR D cs l yX7_isMeter wsX7_isMeter ({ frames := 1, cells := 0, slots := 0, locals := 22 } : Room) [.ref (a 0), .int (zI k)] (fun H => mAt D cs a σ pa sl sv pd kn ln H) (some (.int (zI (if 0 ≤ k ∧ k < σ 7 then 1 else 0)))) := by
  refine Met.ofW (cc := cX7_isMeter) (maxL := 2) (ret := (some .boolean)) (by decide) rfl ?_
  intro p e s m args below meth c s₁ B hml hv
  obtain ⟨rfl, hK, hM⟩ := hv
  have hx := B.exec
  have hb := B.bytes
  have hr := B.returns
  have hts := atoms_spec (ws := wsX7_isMeter) B.pre
  have hown : s.vm.findClass RX7 = some m.cls := findClass_of_methodNamed B.named
  have hlocks := B.notSynchronized
  have S : CallFix p m c cX7_isMeter 2 s (([.ref (a 0), .int (zI k)] : List Value)).toArray wsX7_isMeter RX7 := ⟨hx, hb, hml, hown, hts⟩
  have hl := lv_entry ([.ref (a 0), .int (zI k)]) (n := 2) (Nat.le_of_ble_eq_true rfl)
  rw [lg_entry_eq]
  generalize (lg_sl ([.ref (a 0), .int (zI k)]) ++ List.replicate (2 - (lg_sl ([.ref (a 0), .int (zI k)])).length) Slot.unset).toArray = ls at hl ⊢
  have hl : lv_has ls 2 [(0, .ref (a 0)), (1, .int (zI k))] := hl
  refine lv_iload_n hx hb dX7_isMeter_0 rfl (lv_at hl 1 rfl) ?_
  refine x_iconst hx hb dX7_isMeter_1 ?_
  refine lv_aload_n hx hb dX7_isMeter_2 rfl (lv_at hl 0 rfl) ?_
  refine x_bipush hx hb dX7_isMeter_3 (by decide +kernel) ?_
  refine x_callVR (As := [.int (zI 7)]) (rest := [.int (zI 0), .int (zI k)]) S hK (c_X7_num l D cs a σ pa sl sv pd kn ln 7 (by omega)) (cwV 1 hts gX7_isMeter_X7_num rfl rfl rfl (by decide +kernel) ⟨(Nat.le_of_ble_eq_true rfl), (Nat.le_of_ble_eq_true rfl)⟩) (x_rc hK (mAt_0 hM) rfl) hM rfl hl.1 (Nat.le_of_ble_eq_true rfl) dX7_isMeter_5 ⟨Nat.zero_le _, Nat.zero_le _⟩ ?_
  refine x_iconst hx hb dX7_isMeter_8 ?_
  refine x_isub hx hb dX7_isMeter_9 ?_
  refine x_callSR (As := [.int (zI k), .int (zI 0), .int (zI ((σ 7) - 1))]) (rest := []) S hK (c_X7_in l D cs k 0 ((σ 7) - 1) (by omega) (by omega) (by omega)) (va_cwS 3 hts gX7_isMeter_X7_in rfl rfl rfl (by decide +kernel) ⟨(Nat.le_of_ble_eq_true rfl), (Nat.le_of_ble_eq_true rfl)⟩) trivial rfl hl.1 (Nat.le_of_ble_eq_true rfl) dX7_isMeter_10 ⟨Nat.zero_le _, Nat.zero_le _⟩ ?_
  exact x_zretR hx hb hr hlocks (by by_cases h : 0 ≤ k ∧ k < σ 7 <;> simp [h] <;> omega) (by first | decide | exact Or.inl rfl | exact Or.inr rfl | (split <;> simp)) rfl dX7_isMeter_13
set_option maxHeartbeats 4000000 in
set_option maxRecDepth 100000 in
theorem c_X7_at (l : Launch) (D : va_G) (cs : Nat → ClassId) (q : Int) (k : Int)  : kR D cs l yX7_at wsX7_at ({ frames := 0, cells := 0, slots := 0, locals := 0 } : Room) [.int (zI q), .int (zI k)] (fun _ => True) (some (.int (zI (q + 11 + 13 * k)))) := by
  refine Met.ofW (cc := cX7_at) (maxL := 2) (ret := (some .int)) (by decide) rfl ?_
  intro p e s m args below meth c s₁ B hml hv
  obtain ⟨rfl, hK, -⟩ := hv
  have hx := B.exec
  have hb := B.bytes
  have hr := B.returns
  have hts := atoms_spec (ws := wsX7_at) B.pre
  have hown : s.vm.findClass RX7 = some m.cls := findClass_of_methodNamed B.named
  have hlocks := B.notSynchronized
  have S : CallFix p m c cX7_at 2 s (([.int (zI q), .int (zI k)] : List Value)).toArray wsX7_at RX7 := ⟨hx, hb, hml, hown, hts⟩
  have hl := lv_entry ([.int (zI q), .int (zI k)]) (n := 2) (Nat.le_of_ble_eq_true rfl)
  rw [lg_entry_eq]
  generalize (lg_sl ([.int (zI q), .int (zI k)]) ++ List.replicate (2 - (lg_sl ([.int (zI q), .int (zI k)])).length) Slot.unset).toArray = ls at hl ⊢
  have hl : lv_has ls 2 [(0, .int (zI q)), (1, .int (zI k))] := hl
  refine lv_iload_n hx hb dX7_at_0 rfl (lv_at hl 0 rfl) ?_
  refine x_bipush hx hb dX7_at_1 (by decide +kernel) ?_
  refine x_iadd hx hb dX7_at_3 ?_
  refine x_bipush hx hb dX7_at_4 (by decide +kernel) ?_
  refine lv_iload_n hx hb dX7_at_6 rfl (lv_at hl 1 rfl) ?_
  refine x_imul hx hb dX7_at_7 ?_
  refine x_iadd hx hb dX7_at_8 ?_
  exact x_iretR hx hb hr hlocks (by first | rfl | omega) rfl dX7_at_9
set_option maxHeartbeats 4000000 in
set_option maxRecDepth 100000 in
theorem c_X7_its (l : Launch) (D : va_G) (cs : Nat → ClassId) (a : Int → Nat) (σ : Int → Int) (pa : Int → Int) (sl : Int → Int) (sv : Int → Int) (pd : Int → Int) (kn : Int) (ln : Int) (k : Int) (w : Int) (hk : 0 ≤ k ∧ k < 7) (hw : 0 ≤ w ∧ w < 13) : kR D cs l yX7_its wsX7_its ({ frames := 1, cells := 0, slots := 0, locals := 21 } : Room) [.ref (a 0), .int (zI k), .int (zI w)] (fun H => mAt D cs a σ pa sl sv pd kn ln H) (some (.int (zI (σ (11 + 13 * k + w))))) := by
  refine Met.ofW (cc := cX7_its) (maxL := 3) (ret := (some .int)) (by decide) rfl ?_
  intro p e s m args below meth c s₁ B hml hv
  obtain ⟨rfl, hK, hM⟩ := hv
  have hx := B.exec
  have hb := B.bytes
  have hr := B.returns
  have hts := atoms_spec (ws := wsX7_its) B.pre
  have hown : s.vm.findClass RX7 = some m.cls := findClass_of_methodNamed B.named
  have hlocks := B.notSynchronized
  have S : CallFix p m c cX7_its 3 s (([.ref (a 0), .int (zI k), .int (zI w)] : List Value)).toArray wsX7_its RX7 := ⟨hx, hb, hml, hown, hts⟩
  have hin7 : ∀ w ∈ wsX70, w ∈ wsX7_its := by decide +kernel
  have hl := lv_entry ([.ref (a 0), .int (zI k), .int (zI w)]) (n := 3) (Nat.le_of_ble_eq_true rfl)
  rw [lg_entry_eq]
  generalize (lg_sl ([.ref (a 0), .int (zI k), .int (zI w)]) ++ List.replicate (3 - (lg_sl ([.ref (a 0), .int (zI k), .int (zI w)])).length) Slot.unset).toArray = ls at hl ⊢
  have hl : lv_has ls 3 [(0, .ref (a 0)), (1, .int (zI k)), (2, .int (zI w))] := hl
  refine lv_aload_n hx hb dX7_its_0 rfl (lv_at hl 0 rfl) ?_
  refine m_g_s S hin7 hK hM (hts (.fieldLink RX7 7 "EnergyDiscsModel" "s" "[J") (by decide +kernel)) dX7_its_1 ?_
  refine x_iconst hx hb dX7_its_4 ?_
  refine lv_iload_n hx hb dX7_its_5 rfl (lv_at hl 1 rfl) ?_
  refine x_callSR (As := [.int (zI 0), .int (zI k)]) (rest := [.ref (a 1)]) S hK (c_X7_at l D cs 0 k ) (va_cwS 2 hts gX7_its_X7_at rfl rfl rfl (by decide +kernel) ⟨(Nat.le_of_ble_eq_true rfl), (Nat.le_of_ble_eq_true rfl)⟩) trivial rfl hl.1 (Nat.le_of_ble_eq_true rfl) dX7_its_6 ⟨Nat.zero_le _, Nat.zero_le _⟩ ?_
  refine lv_iload_n hx hb dX7_its_9 rfl (lv_at hl 2 rfl) ?_
  refine x_iadd hx hb dX7_its_10 ?_
  refine m_l_s S hK hM (by omega) dX7_its_11 ?_
  refine x_l2i hx hb dX7_its_12 ?_
  exact x_iretR hx hb hr hlocks (by exact congrArg σ (by omega)) rfl dX7_its_13
end
section
/-! what the reference does with its numbers, in Int -/
def climb (σ : Int → Int) (o : Int) : Nat → Int → Int
  | 0, k => k
  | n + 1, k => if o < k then climb σ o n (σ (11 + 13 * k)) else k
def psum (σ : Int → Int) (o : Int) : Nat → Int
  | 0 => 0
  | n + 1 => psum σ o n + (if σ (102 + 3 * (n : Int) + 2) = 1 ∧ climb σ o 7 (σ (102 + 3 * (n : Int))) = o then σ (102 + 3 * (n : Int) + 1) else 0)
def pwr (σ : Int → Int) (o : Int) : Int := psum σ o (σ 8).toNat
/-- the loads and who feeds whom are in order -/
def lOK (σ : Int → Int) : Prop := (0 ≤ σ 7 ∧ σ 7 ≤ 7) ∧ (0 ≤ σ 8 ∧ σ 8 ≤ 12) ∧ (∀ i : Int, 1 ≤ i → i < σ 7 → 0 ≤ σ (11 + 13 * i) ∧ σ (11 + 13 * i) < i) ∧ (∀ j : Int, 0 ≤ j → j < σ 8 → (0 ≤ σ (102 + 3 * j) ∧ σ (102 + 3 * j) < σ 7) ∧ (1 ≤ σ (102 + 3 * j + 1) ∧ σ (102 + 3 * j + 1) ≤ 4000) ∧ (σ (102 + 3 * j + 2) = 0 ∨ σ (102 + 3 * j + 2) = 1))
/-- the settings and the time, at q -/
def sOK (σ : Int → Int) (q : Int) : Prop := (0 ≤ σ (q + 0) ∧ σ (q + 0) ≤ 99) ∧ (0 ≤ σ (q + 1) ∧ σ (q + 1) ≤ 9) ∧ (σ (q + 2) = 0 ∨ σ (q + 2) = 1) ∧ (100 ≤ σ (q + 3) ∧ σ (q + 3) ≤ 5000) ∧ (0 ≤ σ (q + 6) ∧ σ (q + 6) < 1000000)
/-- a meter, at q + 11 + 13 * k -/
def dOK (σ : Int → Int) (q k : Int) : Prop := (0 ≤ σ (q + 11 + 13 * k + 1) ∧ σ (q + 11 + 13 * k + 1) < 6000) ∧ (100 ≤ σ (q + 11 + 13 * k + 2) ∧ σ (q + 11 + 13 * k + 2) ≤ 160) ∧ (0 ≤ σ (q + 11 + 13 * k + 9) ∧ σ (q + 11 + 13 * k + 9) ≤ 5000) ∧ (σ (q + 11 + 13 * k + 7) = 0 ∨ σ (q + 11 + 13 * k + 7) = 1)
def goesS (σ : Int → Int) (q k pw : Int) : Int :=
  if σ (q + 0) < pw then (if σ (q + 11 + 13 * k + 7) = 1 then σ (q + 11 + 13 * k + 1) + pw * σ (q + 11 + 13 * k + 2) / 100 / 2 else σ (q + 11 + 13 * k + 1) + pw * σ (q + 11 + 13 * k + 2) / 100)
  else if 0 < pw ∨ σ (q + 11 + 13 * k + 7) = 1 then σ (q + 11 + 13 * k + 1)
  else if σ (q + 2) = 0 then σ (q + 11 + 13 * k + 1) + σ (q + 1)
  else if σ (q + 11 + 13 * k + 1) = 0 then 0
  else if 6000 < σ (q + 11 + 13 * k + 1) + σ (q + 1) then 6000 else σ (q + 11 + 13 * k + 1) + σ (q + 1)
def pOneA (σ : Int → Int) (q k : Int) : Int → Int := up σ (q + 11 + 13 * k + 5) (σ (q + 11 + 13 * k + 5) + pwr σ k)
def pOneP (σ : Int → Int) (q k : Int) : Int := goesS (pOneA σ q k) q k (pwr σ k)
def pOneB (σ : Int → Int) (q k : Int) : Int → Int := up (pOneA σ q k) (q + 11 + 13 * k + 1) (pOneP σ q k % 6000)
def pOneI (σ : Int → Int) (q k : Int) : Int := if 1320 ≤ pOneB σ q k (q + 6) % 1440 ∨ pOneB σ q k (q + 6) % 1440 < 360 then q + 11 + 13 * k + 4 else q + 11 + 13 * k + 3
def pOneC (σ : Int → Int) (q k : Int) : Int → Int := up (pOneB σ q k) (pOneI σ q k) (pOneB σ q k (pOneI σ q k) + pOneP σ q k / 6000)
def pOneD (σ : Int → Int) (q k : Int) : Int → Int := up (pOneC σ q k) (q + 11 + 13 * k + 9) (pOneC σ q k (q + 11 + 13 * k + 9) + 1)
def pOneE (σ : Int → Int) (q k : Int) : Int → Int := up (pOneD σ q k) (q + 11 + 13 * k + 9) 0
/-- a minute of a meter -/
def pOne (σ : Int → Int) (q k : Int) : Int → Int := if pOneD σ q k (q + 11 + 13 * k + 9) < pOneD σ q k (q + 3) then pOneD σ q k else up (pOneE σ q k) (q + 11 + 13 * k + 2) (pOneE σ q k (q + 11 + 13 * k + 2) + (if pOneE σ q k (q + 11 + 13 * k + 2) < 160 then 1 else 0))
theorem climb_stop {σ : Int → Int} {o k : Int} (h : k ≤ o) (f : Nat) : climb σ o f k = k := by
  cases f with
  | zero => rfl
  | succ n => exact if_neg (by omega)
theorem climb_go {σ : Int → Int} {o k : Int} {f : Nat} (h : o < k) : climb σ o (f + 1) k = climb σ o f (σ (11 + 13 * k)) := if_pos h
theorem psum_rng {σ : Int → Int} (h : lOK σ) (o : Int) : ∀ n : Nat, (n : Int) ≤ σ 8 → 0 ≤ psum σ o n ∧ psum σ o n ≤ 4000 * n := by
  intro n
  induction n with
  | zero => intro _; exact ⟨Int.le_refl _, Int.le_refl _⟩
  | succ n ih =>
    intro hn
    have h1 := ih (by omega)
    have h2 := (h.2.2.2 n (by omega) (by omega)).2.1
    unfold psum
    split <;> omega
theorem pwr_rng {σ : Int → Int} (h : lOK σ) (o : Int) : 0 ≤ pwr σ o ∧ pwr σ o ≤ 48000 := by
  have h8 := h.2.1
  have h1 := psum_rng h o (σ 8).toNat (by omega)
  unfold pwr
  omega
theorem mAt_cong {D : va_G} {cs : Nat → ClassId} {a : Int → Nat} {σ pa sl sv pd σ' pa' sl' sv' pd' : Int → Int} {kn ln kn' ln' : Int} {H : Heap} (h : mAt D cs a σ pa sl sv pd kn ln H) (e1 : σ = σ') (e2 : pa = pa') (e3 : sl = sl') (e4 : sv = sv') (e5 : pd = pd') (e6 : kn = kn') (e7 : ln = ln') : mAt D cs a σ' pa' sl' sv' pd' kn' ln' H := by
  subst e1; subst e2; subst e3; subst e4; subst e5; subst e6; subst e7; exact h
theorem psum_y {σ : Int → Int} {o : Int} {n : Nat} (h1 : σ (102 + 3 * (n : Int) + 2) = 1) (h2 : climb σ o 7 (σ (102 + 3 * (n : Int))) = o) : psum σ o (n + 1) = psum σ o n + σ (102 + 3 * (n : Int) + 1) := by
  show psum σ o n + _ = _
  rw [if_pos ⟨h1, h2⟩]
theorem psum_n {σ : Int → Int} {o : Int} {n : Nat} (h : ¬ (σ (102 + 3 * (n : Int) + 2) = 1 ∧ climb σ o 7 (σ (102 + 3 * (n : Int))) = o)) : psum σ o (n + 1) = psum σ o n + 0 := by
  show psum σ o n + _ = _
  rw [if_neg h]
section XB2
variable {p : Program} {l : Launch} {e : Env} {R : Room} {s : State} {m : MethodId} {args : Array Value} {below : List Frame} {meth : Method} {c : Code} {H : Heap} {locs : List Loc} {cells slots : Nat} {Q : State → Prop} {cc : ByteArray} {pc : Nat} {ls : Array Slot} {rest : List Value}
theorem x_ifb_eq (hx : p.tables.exec = Jvm.exec) (hb : c.code = cc) {P : Prop} [Decidable P] {off : Int} {tgt : Nat} (d : decode cc pc = .ok (.ifCond .eq off, 3)) (ht : (pc : Int) + off = (tgt : Int)) (kt : ¬ P → W p l e R s m args below meth c H locs cells slots Q (F0 m tgt ls rest)) (kf : P → W p l e R s m args below meth c H locs cells slots Q (F0 m (pc + 3) ls rest)) : W p l e R s m args below meth c H locs cells slots Q (F0 m pc ls (.int (zI (if P then 1 else 0)) :: rest)) := by
  by_cases h : P
  · rw [if_pos h]
    exact x_if_eq hx hb d ht (by decide) (fun q => absurd q (by decide)) (fun _ => kf h)
  · rw [if_neg h]
    exact x_if_eq hx hb d ht (by decide) (fun _ => kt h) (fun q => absurd rfl q)
theorem x_ifb_ne (hx : p.tables.exec = Jvm.exec) (hb : c.code = cc) {P : Prop} [Decidable P] {off : Int} {tgt : Nat} (d : decode cc pc = .ok (.ifCond .ne off, 3)) (ht : (pc : Int) + off = (tgt : Int)) (kt : P → W p l e R s m args below meth c H locs cells slots Q (F0 m tgt ls rest)) (kf : ¬ P → W p l e R s m args below meth c H locs cells slots Q (F0 m (pc + 3) ls rest)) : W p l e R s m args below meth c H locs cells slots Q (F0 m pc ls (.int (zI (if P then 1 else 0)) :: rest)) := by
  by_cases h : P
  · rw [if_pos h]
    exact x_if_ne hx hb d ht (by decide) (fun _ => kt h) (fun q => absurd q (by decide))
  · rw [if_neg h]
    exact x_if_ne hx hb d ht (by decide) (fun q => absurd rfl q) (fun _ => kf h)
end XB2
theorem sOK_up {σ : Int → Int} {q i v : Int} (h : sOK σ q) (hi : i ≠ q + 0 ∧ i ≠ q + 1 ∧ i ≠ q + 2 ∧ i ≠ q + 3 ∧ i ≠ q + 6) : sOK (up σ i v) q := by
  unfold sOK
  rw [up_n (k := q + 0) (by omega), up_n (k := q + 1) (by omega), up_n (k := q + 2) (by omega), up_n (k := q + 3) (by omega), up_n (k := q + 6) (by omega)]
  exact h
theorem dOK_up {σ : Int → Int} {q k i v : Int} (h : dOK σ q k) (hi : i ≠ q + 11 + 13 * k + 1 ∧ i ≠ q + 11 + 13 * k + 2 ∧ i ≠ q + 11 + 13 * k + 9 ∧ i ≠ q + 11 + 13 * k + 7) : dOK (up σ i v) q k := by
  unfold dOK
  rw [up_n (k := q + 11 + 13 * k + 1) (by omega), up_n (k := q + 11 + 13 * k + 2) (by omega), up_n (k := q + 11 + 13 * k + 9) (by omega), up_n (k := q + 11 + 13 * k + 7) (by omega)]
  exact h
theorem goesS_rng {σ : Int → Int} {q k pw : Int} (hs : sOK σ q) (hd : dOK σ q k) (hp : 0 ≤ pw ∧ pw ≤ 48000) : 0 ≤ goesS σ q k pw ∧ goesS σ q k pw < 100000 := by
  obtain ⟨⟨s1, s2⟩, ⟨s3, s4⟩, s5, ⟨s6, s7⟩, s8, s9⟩ := hs
  obtain ⟨⟨d1, d2⟩, ⟨d3, d4⟩, ⟨d5, d6⟩, d7⟩ := hd
  have hm : 0 ≤ pw * σ (q + 11 + 13 * k + 2) ∧ pw * σ (q + 11 + 13 * k + 2) ≤ 48000 * 160 := ⟨Int.mul_nonneg hp.1 (by omega), Int.mul_le_mul hp.2 d4 (by omega) (by omega)⟩
  unfold goesS
  split
  · split <;> omega
  · split
    · omega
    · split
      · omega
      · split
        · omega
        · split <;> omega
theorem pOneC_n {σ : Int → Int} {q k i : Int} (h5 : i ≠ q + 11 + 13 * k + 5) (h1 : i ≠ q + 11 + 13 * k + 1) (h3 : i ≠ q + 11 + 13 * k + 3) (h4 : i ≠ q + 11 + 13 * k + 4) : pOneC σ q k i = σ i := by
  have hI : i ≠ pOneI σ q k := by unfold pOneI; split <;> omega
  exact (up_n hI).trans ((up_n h1).trans (up_n h5))
theorem pOneD_9 {σ : Int → Int} {q k : Int} (hq : q = 0 ∨ q = 138) : pOneD σ q k (q + 11 + 13 * k + 9) = σ (q + 11 + 13 * k + 9) + 1 := by
  unfold pOneD
  rw [up_s, pOneC_n (by omega) (by omega) (by omega) (by omega)]
theorem pOneD_2 {σ : Int → Int} {q k : Int} (hq : q = 0 ∨ q = 138) : pOneD σ q k (q + 11 + 13 * k + 2) = σ (q + 11 + 13 * k + 2) := by
  unfold pOneD
  rw [up_n (by omega), pOneC_n (by omega) (by omega) (by omega) (by omega)]
theorem pOneD_n {σ : Int → Int} {q k i : Int} (hq : q = 0 ∨ q = 138) (h0 : i < q + 11 ) (hk : 0 ≤ k) : pOneD σ q k i = σ i := by
  unfold pOneD
  rw [up_n (by omega), pOneC_n (by omega) (by omega) (by omega) (by omega)]
end
section
set_option maxHeartbeats 4000000 in
set_option maxRecDepth 100000 in
theorem c_X7_isThrough (l : Launch) (D : va_G) (cs : Nat → ClassId) (a : Int → Nat) (σ : Int → Int) (pa : Int → Int) (sl : Int → Int) (sv : Int → Int) (pd : Int → Int) (kn : Int) (ln : Int) (k : Int) (o : Int) (hL : lOK σ) (hk : 0 ≤ k ∧ k < σ 7) (ho : 0 ≤ o ∧ o < 2147483648) : kR D cs l yX7_isThrough wsX7_isThrough ({ frames := 2, cells := 0, slots := 0, locals := 43 } : Room) [.ref (a 0), .int (zI k), .int (zI o)] (fun H => mAt D cs a σ pa sl sv pd kn ln H) (some (.int (zI (if climb σ o 7 k = o then 1 else 0)))) := by
  refine Met.ofW (cc := cX7_isThrough) (maxL := 4) (ret := (some .boolean)) (by decide) rfl ?_
  intro p e s m args below meth c s₁ B hml hv
  obtain ⟨rfl, hK, hM⟩ := hv
  have hx := B.exec
  have hb := B.bytes
  have hr := B.returns
  have hts := atoms_spec (ws := wsX7_isThrough) B.pre
  have hown : s.vm.findClass RX7 = some m.cls := findClass_of_methodNamed B.named
  have hlocks := B.notSynchronized
  have S : CallFix p m c cX7_isThrough 4 s (([.ref (a 0), .int (zI k), .int (zI o)] : List Value)).toArray wsX7_isThrough RX7 := ⟨hx, hb, hml, hown, hts⟩
  have hl := lv_entry ([.ref (a 0), .int (zI k), .int (zI o)]) (n := 4) (Nat.le_of_ble_eq_true rfl)
  rw [lg_entry_eq]
  generalize (lg_sl ([.ref (a 0), .int (zI k), .int (zI o)]) ++ List.replicate (4 - (lg_sl ([.ref (a 0), .int (zI k), .int (zI o)])).length) Slot.unset).toArray = ls at hl ⊢
  have hl : lv_has ls 4 [(0, .ref (a 0)), (1, .int (zI k)), (2, .int (zI o))] := hl
  have h7 := hL.1
  refine lv_iload_n hx hb dX7_isThrough_0 rfl (lv_at hl 1 rfl) ?_
  refine lv_istore_n (lv' := [(3, .int (zI k)), (0, .ref (a 0)), (1, .int (zI k)), (2, .int (zI o))]) hx hb dX7_isThrough_1 rfl hl (by decide) rfl (fun ls hl => ?_)
  have lp2 : ∀ (n : Nat) (j : Int) (f : Nat), j.toNat < n → 0 ≤ j ∧ j < σ 7 → j ≤ (f : Int) → climb σ o f j = climb σ o 7 k → ∀ (ls : Array Slot), lv_has ls 4 [(3, .int (zI j)), (0, .ref (a 0)), (1, .int (zI k)), (2, .int (zI o))] → W p l e (headSpec wsX7_isThrough ({ frames := 2, cells := 0, slots := 0, locals := 43 } : Room)).room s m ([.ref (a 0), .int (zI k), .int (zI o)] : List Value).toArray below meth c s.heap [] 0 0 (MQ below (kS (some (.int (zI (if climb σ o 7 k = o then 1 else 0))))) ([.ref (a 0), .int (zI k), .int (zI o)] : List Value).toArray s 0 0 (fun _ => False)) (F0 m 2 ls []) := by
    intro n
    induction n with
    | zero => intro j f hms; exact absurd hms (Nat.not_lt_zero _)
    | succ n ih =>
      intro j f hms hj hf hc ls hl
      have ih2 := ih
      clear ih
      refine lv_iload_n hx hb dX7_isThrough_2 rfl (lv_at hl 0 rfl) ?_
      refine lv_iload_n hx hb dX7_isThrough_3 rfl (lv_at hl 3 rfl) ?_
      refine x_icmp_le (tgt := 17) hx hb dX7_isThrough_4 (by decide) (by omega) (by omega) (fun c_4 => ?_) (fun c_4 => ?_)
      · refine lv_iload_n hx hb dX7_isThrough_17 rfl (lv_at hl 0 rfl) ?_
        refine lv_iload_n hx hb dX7_isThrough_18 rfl (lv_at hl 3 rfl) ?_
        refine x_icmp_ne (tgt := 26) hx hb dX7_isThrough_19 (by decide) (by omega) (by omega) (fun c_19 => ?_) (fun c_19 => ?_)
        · refine x_iconst hx hb dX7_isThrough_26 ?_
          exact x_zretR hx hb hr hlocks (by rw [← hc, climb_stop (by omega)]; first | (rw [if_pos (by omega)]) | (rw [if_neg (by omega)])) (by first | decide | exact Or.inl rfl | exact Or.inr rfl | (split <;> simp)) rfl dX7_isThrough_27
        · refine x_iconst hx hb dX7_isThrough_22 ?_
          refine lv_goto (tgt := 27) hx hb dX7_isThrough_23 (by decide) ?_
          exact x_zretR hx hb hr hlocks (by rw [← hc, climb_stop (by omega)]; first | (rw [if_pos (by omega)]) | (rw [if_neg (by omega)])) (by first | decide | exact Or.inl rfl | exact Or.inr rfl | (split <;> simp)) rfl dX7_isThrough_27
      · refine lv_aload_n hx hb dX7_isThrough_7 rfl (lv_at hl 1 rfl) ?_
        refine lv_iload_n hx hb dX7_isThrough_8 rfl (lv_at hl 0 rfl) ?_
        refine x_iconst hx hb dX7_isThrough_9 ?_
        refine x_callVR (As := [.int (zI j), .int (zI 0)]) (rest := []) S hK (c_X7_its l D cs a σ pa sl sv pd kn ln j 0 (by omega) (by omega)) (cwV 2 hts gX7_isThrough_X7_its rfl rfl rfl (by decide +kernel) ⟨(Nat.le_of_ble_eq_true rfl), (Nat.le_of_ble_eq_true rfl)⟩) (x_rc hK (mAt_0 hM) rfl) hM rfl hl.1 (Nat.le_of_ble_eq_true rfl) dX7_isThrough_10 ⟨Nat.zero_le _, Nat.zero_le _⟩ ?_
        refine lv_istore_n (lv' := [(3, .int (zI (σ (11 + 13 * j + 0)))), (0, .ref (a 0)), (1, .int (zI k)), (2, .int (zI o))]) hx hb dX7_isThrough_13 rfl hl (by decide) rfl (fun ls hl => ?_)
        refine lv_goto (tgt := 2) hx hb dX7_isThrough_14 (by decide) ?_
        exact ih2 (σ (11 + 13 * j + 0)) (f - 1) (by have := hL.2.2.1 j (by omega) hj.2; rw [Int.add_zero]; omega) (by have := hL.2.2.1 j (by omega) hj.2; rw [Int.add_zero]; omega) (by have := hL.2.2.1 j (by omega) hj.2; rw [Int.add_zero]; omega) (by rw [Int.add_zero, ← hc]; obtain ⟨g, rfl⟩ : ∃ g, f = g + 1 := ⟨f - 1, by omega⟩; rw [climb_go (by omega)]; rfl) ls (lv_sub hl [0, 1, 2, 3] rfl)
  exact lp2 (k.toNat + 1) k 7 (Nat.lt_succ_self _) (by omega) (by omega) (by rfl) ls (lv_sub hl [0, 1, 2, 3] rfl)
set_option maxHeartbeats 4000000 in
set_option maxRecDepth 100000 in
theorem c_X7_power (l : Launch) (D : va_G) (cs : Nat → ClassId) (a : Int → Nat) (σ : Int → Int) (pa : Int → Int) (sl : Int → Int) (sv : Int → Int) (pd : Int → Int) (kn : Int) (ln : Int) (o : Int) (hL : lOK σ) (ho : 0 ≤ o ∧ o < σ 7) : kR D cs l yX7_power wsX7_power ({ frames := 3, cells := 0, slots := 0, locals := 66 } : Room) [.ref (a 0), .int (zI o)] (fun H => mAt D cs a σ pa sl sv pd kn ln H) (some (.int (zI (pwr σ o)))) := by
  refine Met.ofW (cc := cX7_power) (maxL := 5) (ret := (some .int)) (by decide) rfl ?_
  intro p e s m args below meth c s₁ B hml hv
  obtain ⟨rfl, hK, hM⟩ := hv
  have hx := B.exec
  have hb := B.bytes
  have hr := B.returns
  have hts := atoms_spec (ws := wsX7_power) B.pre
  have hown : s.vm.findClass RX7 = some m.cls := findClass_of_methodNamed B.named
  have hlocks := B.notSynchronized
  have S : CallFix p m c cX7_power 5 s (([.ref (a 0), .int (zI o)] : List Value)).toArray wsX7_power RX7 := ⟨hx, hb, hml, hown, hts⟩
  have hin7 : ∀ w ∈ wsX70, w ∈ wsX7_power := by decide +kernel
  have hl := lv_entry ([.ref (a 0), .int (zI o)]) (n := 5) (Nat.le_of_ble_eq_true rfl)
  rw [lg_entry_eq]
  generalize (lg_sl ([.ref (a 0), .int (zI o)]) ++ List.replicate (5 - (lg_sl ([.ref (a 0), .int (zI o)])).length) Slot.unset).toArray = ls at hl ⊢
  have hl : lv_has ls 5 [(0, .ref (a 0)), (1, .int (zI o))] := hl
  have h7 := hL.1
  have h8 := hL.2.1
  refine x_iconst hx hb dX7_power_0 ?_
  refine lv_istore_n (lv' := [(2, .int (zI 0)), (0, .ref (a 0)), (1, .int (zI o))]) hx hb dX7_power_1 rfl hl (by decide) rfl (fun ls hl => ?_)
  refine x_iconst hx hb dX7_power_2 ?_
  refine lv_istore_n (lv' := [(3, .int (zI 0)), (2, .int (zI 0)), (0, .ref (a 0)), (1, .int (zI o))]) hx hb dX7_power_3 rfl hl (by decide) rfl (fun ls hl => ?_)
  have lp4 : ∀ (n : Nat) (j : Int) (acc : Int) (n0 : Nat), (σ 8 - j).toNat < n → 0 ≤ j ∧ j ≤ σ 8 → j = (n0 : Int) → acc = psum σ o n0 → ∀ (ls : Array Slot), lv_has ls 5 [(3, .int (zI j)), (2, .int (zI acc)), (0, .ref (a 0)), (1, .int (zI o))] → W p l e (headSpec wsX7_power ({ frames := 3, cells := 0, slots := 0, locals := 66 } : Room)).room s m ([.ref (a 0), .int (zI o)] : List Value).toArray below meth c s.heap [] 0 0 (MQ below (kS (some (.int (zI (pwr σ o))))) ([.ref (a 0), .int (zI o)] : List Value).toArray s 0 0 (fun _ => False)) (F0 m 4 ls []) := by
    intro n
    induction n with
    | zero => intro j acc n0 hms; exact absurd hms (Nat.not_lt_zero _)
    | succ n ih =>
      intro j acc n0 hms hj hn ha ls hl
      have ih4 := ih
      clear ih
      refine lv_iload_n hx hb dX7_power_4 rfl (lv_at hl 0 rfl) ?_
      refine lv_aload_n hx hb dX7_power_5 rfl (lv_at hl 2 rfl) ?_
      refine x_bipush hx hb dX7_power_6 (by decide +kernel) ?_
      refine x_callVR (As := [.int (zI 8)]) (rest := [.int (zI j)]) S hK (c_X7_num l D cs a σ pa sl sv pd kn ln 8 (by omega)) (cwV 1 hts gX7_power_X7_num rfl rfl rfl (by decide +kernel) ⟨(Nat.le_of_ble_eq_true rfl), (Nat.le_of_ble_eq_true rfl)⟩) (x_rc hK (mAt_0 hM) rfl) hM rfl hl.1 (Nat.le_of_ble_eq_true rfl) dX7_power_8 ⟨Nat.zero_le _, Nat.zero_le _⟩ ?_
      refine x_icmp_ge (tgt := 91) hx hb dX7_power_11 (by decide) (by omega) (by omega) (fun c_11 => ?_) (fun c_11 => ?_)
      · refine lv_iload_n hx hb dX7_power_91 rfl (lv_at hl 1 rfl) ?_
        exact x_iretR hx hb hr hlocks (by rw [ha]; unfold pwr; congr 1; omega) rfl dX7_power_92
      · have hld := hL.2.2.2 j (by omega) (by omega)
        refine lv_aload_n hx hb dX7_power_14 rfl (lv_at hl 2 rfl) ?_
        refine m_g_s S hin7 hK hM (hts (.fieldLink RX7 7 "EnergyDiscsModel" "s" "[J") (by decide +kernel)) dX7_power_15 ?_
        refine x_bipush hx hb dX7_power_18 (by decide +kernel) ?_
        refine x_iconst hx hb dX7_power_20 ?_
        refine lv_iload_n hx hb dX7_power_21 rfl (lv_at hl 0 rfl) ?_
        refine x_imul hx hb dX7_power_22 ?_
        refine x_iadd hx hb dX7_power_23 ?_
        refine x_iconst hx hb dX7_power_24 ?_
        refine x_iadd hx hb dX7_power_25 ?_
        refine m_l_s S hK hM (by omega) dX7_power_26 ?_
        refine x_lconst (v := 1) hx hb dX7_power_27 rfl ?_
        refine x_lcmp_ne (tgt := 56) hx hb dX7_power_28 dX7_power_29 (by decide) (by omega) (by omega) (fun c_28 => ?_) (fun c_28 => ?_)
        · refine x_iconst hx hb dX7_power_56 ?_
          refine lv_istore (lv' := [(4, .int (zI 0)), (3, .int (zI j)), (2, .int (zI acc)), (0, .ref (a 0)), (1, .int (zI o))]) hx hb dX7_power_57 hl (by decide) rfl (fun ls hl => ?_)
          refine lv_iload_n hx hb dX7_power_59 rfl (lv_at hl 2 rfl) ?_
          refine lv_iload hx hb dX7_power_60 (lv_at hl 0 rfl) ?_
          refine x_if_eq (tgt := 82) hx hb dX7_power_62 (by decide) (by decide) (fun _ => ?_) (fun q => absurd q (by decide))
          refine x_iconst hx hb dX7_power_82 ?_
          refine x_iadd hx hb dX7_power_83 ?_
          refine lv_istore_n (lv' := [(2, .int (zI (acc + 0))), (4, .int (zI 0)), (3, .int (zI j)), (0, .ref (a 0)), (1, .int (zI o))]) hx hb dX7_power_84 rfl hl (by decide) rfl (fun ls hl => ?_)
          refine x_iinc (x := j) (lv' := [(3, .int (zI (j + 1))), (2, .int (zI (acc + 0))), (4, .int (zI 0)), (0, .ref (a 0)), (1, .int (zI o))]) hx hb dX7_power_85 hl (k := 2) rfl (by decide) rfl (fun ls hl => ?_)
          refine lv_goto (tgt := 4) hx hb dX7_power_88 (by decide) ?_
          exact ih4 (j + 1) (acc + 0) (n0 + 1) (by omega) (by omega) (by omega) (by rw [ha]; subst hn; first | (rw [psum_y] <;> assumption) | (rw [psum_n]; intro q; first | exact c_28 q.1 | exact c_49 q.2)) ls (lv_sub hl [0, 1, 3, 4] rfl)
        · refine lv_aload_n hx hb dX7_power_32 rfl (lv_at hl 2 rfl) ?_
          refine lv_aload_n hx hb dX7_power_33 rfl (lv_at hl 2 rfl) ?_
          refine m_g_s S hin7 hK hM (hts (.fieldLink RX7 7 "EnergyDiscsModel" "s" "[J") (by decide +kernel)) dX7_power_34 ?_
          refine x_bipush hx hb dX7_power_37 (by decide +kernel) ?_
          refine x_iconst hx hb dX7_power_39 ?_
          refine lv_iload_n hx hb dX7_power_40 rfl (lv_at hl 0 rfl) ?_
          refine x_imul hx hb dX7_power_41 ?_
          refine x_iadd hx hb dX7_power_42 ?_
          refine m_l_s S hK hM (by omega) dX7_power_43 ?_
          refine x_l2i hx hb dX7_power_44 ?_
          refine lv_iload_n hx hb dX7_power_45 rfl (lv_at hl 3 rfl) ?_
          refine x_callVR (As := [.int (zI (σ (102 + (3 * j)))), .int (zI o)]) (rest := []) S hK (c_X7_isThrough l D cs a σ pa sl sv pd kn ln (σ (102 + (3 * j))) o (by omega) (by omega) (by omega)) (cwV 2 hts gX7_power_X7_isThrough rfl rfl rfl (by decide +kernel) ⟨(Nat.le_of_ble_eq_true rfl), (Nat.le_of_ble_eq_true rfl)⟩) (x_rc hK (mAt_0 hM) rfl) hM rfl hl.1 (Nat.le_of_ble_eq_true rfl) dX7_power_46 ⟨Nat.zero_le _, Nat.zero_le _⟩ ?_
          refine x_ifb_eq (tgt := 56) hx hb dX7_power_49 (by decide)  (fun c_49 => ?_) (fun c_49 => ?_)
          · refine x_iconst hx hb dX7_power_56 ?_
            refine lv_istore (lv' := [(4, .int (zI 0)), (3, .int (zI j)), (2, .int (zI acc)), (0, .ref (a 0)), (1, .int (zI o))]) hx hb dX7_power_57 hl (by decide) rfl (fun ls hl => ?_)
            refine lv_iload_n hx hb dX7_power_59 rfl (lv_at hl 2 rfl) ?_
            refine lv_iload hx hb dX7_power_60 (lv_at hl 0 rfl) ?_
            refine x_if_eq (tgt := 82) hx hb dX7_power_62 (by decide) (by decide) (fun _ => ?_) (fun q => absurd q (by decide))
            refine x_iconst hx hb dX7_power_82 ?_
            refine x_iadd hx hb dX7_power_83 ?_
            refine lv_istore_n (lv' := [(2, .int (zI (acc + 0))), (4, .int (zI 0)), (3, .int (zI j)), (0, .ref (a 0)), (1, .int (zI o))]) hx hb dX7_power_84 rfl hl (by decide) rfl (fun ls hl => ?_)
            refine x_iinc (x := j) (lv' := [(3, .int (zI (j + 1))), (2, .int (zI (acc + 0))), (4, .int (zI 0)), (0, .ref (a 0)), (1, .int (zI o))]) hx hb dX7_power_85 hl (k := 2) rfl (by decide) rfl (fun ls hl => ?_)
            refine lv_goto (tgt := 4) hx hb dX7_power_88 (by decide) ?_
            exact ih4 (j + 1) (acc + 0) (n0 + 1) (by omega) (by omega) (by omega) (by rw [ha]; subst hn; first | (rw [psum_y] <;> assumption) | (rw [psum_n]; intro q; first | exact c_28 q.1 | exact c_49 q.2)) ls (lv_sub hl [0, 1, 3, 4] rfl)
          · refine x_iconst hx hb dX7_power_52 ?_
            refine lv_goto (tgt := 57) hx hb dX7_power_53 (by decide) ?_
            refine lv_istore (lv' := [(4, .int (zI 1)), (3, .int (zI j)), (2, .int (zI acc)), (0, .ref (a 0)), (1, .int (zI o))]) hx hb dX7_power_57 hl (by decide) rfl (fun ls hl => ?_)
            refine lv_iload_n hx hb dX7_power_59 rfl (lv_at hl 2 rfl) ?_
            refine lv_iload hx hb dX7_power_60 (lv_at hl 0 rfl) ?_
            refine x_if_eq (tgt := 82) hx hb dX7_power_62 (by decide) (by decide) (fun q => absurd q (by decide)) (fun _ => ?_)
            refine lv_aload_n hx hb dX7_power_65 rfl (lv_at hl 3 rfl) ?_
            refine m_g_s S hin7 hK hM (hts (.fieldLink RX7 7 "EnergyDiscsModel" "s" "[J") (by decide +kernel)) dX7_power_66 ?_
            refine x_bipush hx hb dX7_power_69 (by decide +kernel) ?_
            refine x_iconst hx hb dX7_power_71 ?_
            refine lv_iload_n hx hb dX7_power_72 rfl (lv_at hl 1 rfl) ?_
            refine x_imul hx hb dX7_power_73 ?_
            refine x_iadd hx hb dX7_power_74 ?_
            refine x_iconst hx hb dX7_power_75 ?_
            refine x_iadd hx hb dX7_power_76 ?_
            refine m_l_s S hK hM (by omega) dX7_power_77 ?_
            refine x_l2i hx hb dX7_power_78 ?_
            refine lv_goto (tgt := 83) hx hb dX7_power_79 (by decide) ?_
            refine x_iadd hx hb dX7_power_83 ?_
            refine lv_istore_n (lv' := [(2, .int (zI (acc + (σ ((102 + (3 * j)) + 1))))), (4, .int (zI 1)), (3, .int (zI j)), (0, .ref (a 0)), (1, .int (zI o))]) hx hb dX7_power_84 rfl hl (by decide) rfl (fun ls hl => ?_)
            refine x_iinc (x := j) (lv' := [(3, .int (zI (j + 1))), (2, .int (zI (acc + (σ ((102 + (3 * j)) + 1))))), (4, .int (zI 1)), (0, .ref (a 0)), (1, .int (zI o))]) hx hb dX7_power_85 hl (k := 2) rfl (by decide) rfl (fun ls hl => ?_)
            refine lv_goto (tgt := 4) hx hb dX7_power_88 (by decide) ?_
            exact ih4 (j + 1) (acc + (σ ((102 + (3 * j)) + 1))) (n0 + 1) (by omega) (by omega) (by omega) (by rw [ha]; subst hn; first | (rw [psum_y] <;> assumption) | (rw [psum_n]; intro q; first | exact c_28 q.1 | exact c_49 q.2)) ls (lv_sub hl [0, 1, 3, 4] rfl)
  exact lp4 ((σ 8 - 0).toNat + 1) 0 0 0 (Nat.lt_succ_self _) (by omega) (by omega) (by rfl) ls (lv_sub hl [0, 1, 2, 3] rfl)
set_option maxHeartbeats 4000000 in
set_option maxRecDepth 100000 in
theorem c_X7_isNight (l : Launch) (D : va_G) (cs : Nat → ClassId) (tm : Int) (ht : 0 ≤ tm ∧ tm < 9223372036854775808) : kR D cs l yX7_isNight wsX7_isNight ({ frames := 0, cells := 0, slots := 0, locals := 0 } : Room) [.long (zL tm)] (fun _ => True) (some (.int (zI (if 1320 ≤ tm % 1440 ∨ tm % 1440 < 360 then 1 else 0)))) := by
  refine Met.ofW (cc := cX7_isNight) (maxL := 4) (ret := (some .boolean)) (by decide) rfl ?_
  intro p e s m args below meth c s₁ B hml hv
  obtain ⟨rfl, hK, -⟩ := hv
  have hx := B.exec
  have hb := B.bytes
  have hr := B.returns
  have hts := atoms_spec (ws := wsX7_isNight) B.pre
  have hown : s.vm.findClass RX7 = some m.cls := findClass_of_methodNamed B.named
  have hlocks := B.notSynchronized
  have S : CallFix p m c cX7_isNight 4 s (([.long (zL tm)] : List Value)).toArray wsX7_isNight RX7 := ⟨hx, hb, hml, hown, hts⟩
  have hl := lv_entry ([.long (zL tm)]) (n := 4) (Nat.le_of_ble_eq_true rfl)
  rw [lg_entry_eq]
  generalize (lg_sl ([.long (zL tm)]) ++ List.replicate (4 - (lg_sl ([.long (zL tm)])).length) Slot.unset).toArray = ls at hl ⊢
  have hl : lv_has ls 4 [(0, .long (zL tm))] := hl
  refine lv_lload_n hx hb dX7_isNight_0 rfl (lv_at hl 0 rfl) ?_
  refine x_ldc2 (v := 1440) hx hb hown (hts (.constantLong RX7 60 (zL 1440)) (by decide +kernel)) dX7_isNight_1 ?_
  refine x_lrem hx hb (by omega) (by omega) dX7_isNight_4 ?_
  refine lv_lstore_n (lv' := [(2, .long (zL (tm % 1440))), (0, .long (zL tm))]) hx hb dX7_isNight_5 rfl hl (by decide) rfl (fun ls hl => ?_)
  refine lv_lload_n hx hb dX7_isNight_6 rfl (lv_at hl 0 rfl) ?_
  refine x_ldc2 (v := 1320) hx hb hown (hts (.constantLong RX7 62 (zL 1320)) (by decide +kernel)) dX7_isNight_7 ?_
  refine x_lcmp_ge (tgt := 22) hx hb dX7_isNight_10 dX7_isNight_11 (by decide) (by omega) (by omega) (fun c_10 => ?_) (fun c_10 => ?_)
  · refine x_iconst hx hb dX7_isNight_22 ?_
    refine lv_goto (tgt := 27) hx hb dX7_isNight_23 (by decide) ?_
    exact x_zretR hx hb hr hlocks (by first | (rw [if_pos (by omega)]) | (rw [if_neg (by omega)])) (by first | decide | exact Or.inl rfl | exact Or.inr rfl | (split <;> simp)) rfl dX7_isNight_27
  · refine lv_lload_n hx hb dX7_isNight_14 rfl (lv_at hl 0 rfl) ?_
    refine x_ldc2 (v := 360) hx hb hown (hts (.constantLong RX7 64 (zL 360)) (by decide +kernel)) dX7_isNight_15 ?_
    refine x_lcmp_ge (tgt := 26) hx hb dX7_isNight_18 dX7_isNight_19 (by decide) (by omega) (by omega) (fun c_18 => ?_) (fun c_18 => ?_)
    · refine x_iconst hx hb dX7_isNight_26 ?_
      exact x_zretR hx hb hr hlocks (by first | (rw [if_pos (by omega)]) | (rw [if_neg (by omega)])) (by first | decide | exact Or.inl rfl | exact Or.inr rfl | (split <;> simp)) rfl dX7_isNight_27
    · refine x_iconst hx hb dX7_isNight_22 ?_
      refine lv_goto (tgt := 27) hx hb dX7_isNight_23 (by decide) ?_
      exact x_zretR hx hb hr hlocks (by first | (rw [if_pos (by omega)]) | (rw [if_neg (by omega)])) (by first | decide | exact Or.inl rfl | exact Or.inr rfl | (split <;> simp)) rfl dX7_isNight_27
set_option maxHeartbeats 4000000 in
set_option maxRecDepth 100000 in
theorem c_X7_goes (l : Launch) (D : va_G) (cs : Nat → ClassId) (a : Int → Nat) (σ : Int → Int) (pa : Int → Int) (sl : Int → Int) (sv : Int → Int) (pd : Int → Int) (kn : Int) (ln : Int) (q : Int) (k : Int) (pw : Int) (hq : q = 0 ∨ q = 138) (hk : 0 ≤ k ∧ k < 7) (hp : 0 ≤ pw ∧ pw ≤ 48000) (hs : sOK σ q) (hd : dOK σ q k) : kR D cs l yX7_goes wsX7_goes ({ frames := 1, cells := 0, slots := 0, locals := 21 } : Room) [.ref (a 0), .int (zI q), .int (zI k), .int (zI pw)] (fun H => mAt D cs a σ pa sl sv pd kn ln H) (some (.long (zL (goesS σ q k pw)))) := by
  refine Met.ofW (cc := cX7_goes) (maxL := 9) (ret := (some .long)) (by decide) rfl ?_
  intro p e s m args below meth c s₁ B hml hv
  obtain ⟨rfl, hK, hM⟩ := hv
  have hx := B.exec
  have hb := B.bytes
  have hr := B.returns
  have hts := atoms_spec (ws := wsX7_goes) B.pre
  have hown : s.vm.findClass RX7 = some m.cls := findClass_of_methodNamed B.named
  have hlocks := B.notSynchronized
  have S : CallFix p m c cX7_goes 9 s (([.ref (a 0), .int (zI q), .int (zI k), .int (zI pw)] : List Value)).toArray wsX7_goes RX7 := ⟨hx, hb, hml, hown, hts⟩
  have hin7 : ∀ w ∈ wsX70, w ∈ wsX7_goes := by decide +kernel
  have hl := lv_entry ([.ref (a 0), .int (zI q), .int (zI k), .int (zI pw)]) (n := 9) (Nat.le_of_ble_eq_true rfl)
  rw [lg_entry_eq]
  generalize (lg_sl ([.ref (a 0), .int (zI q), .int (zI k), .int (zI pw)]) ++ List.replicate (9 - (lg_sl ([.ref (a 0), .int (zI q), .int (zI k), .int (zI pw)])).length) Slot.unset).toArray = ls at hl ⊢
  have hl : lv_has ls 9 [(0, .ref (a 0)), (1, .int (zI q)), (2, .int (zI k)), (3, .int (zI pw))] := hl
  obtain ⟨⟨s1, s2⟩, ⟨s3, s4⟩, s5, ⟨s6, s7⟩, s8, s9⟩ := hs
  obtain ⟨⟨d1, d2⟩, ⟨d3, d4⟩, ⟨d5, d6⟩, d7⟩ := hd
  have hm : 0 ≤ pw * σ (q + 11 + 13 * k + 2) ∧ pw * σ (q + 11 + 13 * k + 2) ≤ 48000 * 160 := ⟨Int.mul_nonneg hp.1 (by omega), Int.mul_le_mul hp.2 d4 (by omega) (by omega)⟩
  refine lv_aload_n hx hb dX7_goes_0 rfl (lv_at hl 0 rfl) ?_
  refine m_g_s S hin7 hK hM (hts (.fieldLink RX7 7 "EnergyDiscsModel" "s" "[J") (by decide +kernel)) dX7_goes_1 ?_
  refine lv_iload_n hx hb dX7_goes_4 rfl (lv_at hl 1 rfl) ?_
  refine lv_iload_n hx hb dX7_goes_5 rfl (lv_at hl 2 rfl) ?_
  refine x_callSR (As := [.int (zI q), .int (zI k)]) (rest := [.ref (a 1)]) S hK (c_X7_at l D cs q k ) (va_cwS 2 hts gX7_goes_X7_at rfl rfl rfl (by decide +kernel) ⟨(Nat.le_of_ble_eq_true rfl), (Nat.le_of_ble_eq_true rfl)⟩) trivial rfl hl.1 (Nat.le_of_ble_eq_true rfl) dX7_goes_6 ⟨Nat.zero_le _, Nat.zero_le _⟩ ?_
  refine x_iconst hx hb dX7_goes_9 ?_
  refine x_iadd hx hb dX7_goes_10 ?_
  refine m_l_s S hK hM (by omega) dX7_goes_11 ?_
  refine lv_lstore (lv' := [(4, .long (zL (σ ((q + 11 + 13 * k) + 1)))), (0, .ref (a 0)), (1, .int (zI q)), (2, .int (zI k)), (3, .int (zI pw))]) hx hb dX7_goes_12 hl (by decide) rfl (fun ls hl => ?_)
  refine lv_aload_n hx hb dX7_goes_14 rfl (lv_at hl 1 rfl) ?_
  refine m_g_s S hin7 hK hM (hts (.fieldLink RX7 7 "EnergyDiscsModel" "s" "[J") (by decide +kernel)) dX7_goes_15 ?_
  refine lv_iload_n hx hb dX7_goes_18 rfl (lv_at hl 2 rfl) ?_
  refine lv_iload_n hx hb dX7_goes_19 rfl (lv_at hl 3 rfl) ?_
  refine x_callSR (As := [.int (zI q), .int (zI k)]) (rest := [.ref (a 1)]) S hK (c_X7_at l D cs q k ) (va_cwS 2 hts gX7_goes_X7_at rfl rfl rfl (by decide +kernel) ⟨(Nat.le_of_ble_eq_true rfl), (Nat.le_of_ble_eq_true rfl)⟩) trivial rfl hl.1 (Nat.le_of_ble_eq_true rfl) dX7_goes_20 ⟨Nat.zero_le _, Nat.zero_le _⟩ ?_
  refine x_bipush hx hb dX7_goes_23 (by decide +kernel) ?_
  refine x_iadd hx hb dX7_goes_25 ?_
  refine m_l_s S hK hM (by omega) dX7_goes_26 ?_
  refine x_lconst (v := 1) hx hb dX7_goes_27 rfl ?_
  refine x_lcmp_ne (tgt := 36) hx hb dX7_goes_28 dX7_goes_29 (by decide) (by omega) (by omega) (fun c_28 => ?_) (fun c_28 => ?_)
  · refine x_iconst hx hb dX7_goes_36 ?_
    refine lv_istore (lv' := [(6, .int (zI 0)), (4, .long (zL (σ ((q + 11 + 13 * k) + 1)))), (0, .ref (a 0)), (1, .int (zI q)), (2, .int (zI k)), (3, .int (zI pw))]) hx hb dX7_goes_37 hl (by decide) rfl (fun ls hl => ?_)
    refine lv_iload_n hx hb dX7_goes_39 rfl (lv_at hl 5 rfl) ?_
    refine x_i2l hx hb (by omega) dX7_goes_40 ?_
    refine lv_aload_n hx hb dX7_goes_41 rfl (lv_at hl 2 rfl) ?_
    refine m_g_s S hin7 hK hM (hts (.fieldLink RX7 7 "EnergyDiscsModel" "s" "[J") (by decide +kernel)) dX7_goes_42 ?_
    refine lv_iload_n hx hb dX7_goes_45 rfl (lv_at hl 3 rfl) ?_
    refine x_iconst hx hb dX7_goes_46 ?_
    refine x_iadd hx hb dX7_goes_47 ?_
    refine m_l_s S hK hM (by omega) dX7_goes_48 ?_
    refine x_lcmp_le (tgt := 94) hx hb dX7_goes_49 dX7_goes_50 (by decide) (by omega) (by omega) (fun c_49 => ?_) (fun c_49 => ?_)
    · refine lv_iload_n hx hb dX7_goes_94 rfl (lv_at hl 5 rfl) ?_
      refine x_if_gt (tgt := 103) hx hb dX7_goes_95 (by decide) (by omega) (fun c_95 => ?_) (fun c_95 => ?_)
      · refine lv_lload hx hb dX7_goes_103 (lv_at hl 1 rfl) ?_
        exact x_lretR hx hb hr hlocks (by unfold goesS; (repeat (first | rw [if_pos (by omega)] | rw [if_neg (by omega)])) <;> rfl) rfl dX7_goes_105
      · refine lv_iload hx hb dX7_goes_98 (lv_at hl 0 rfl) ?_
        refine x_if_eq (tgt := 106) hx hb dX7_goes_100 (by decide) (by decide) (fun _ => ?_) (fun q => absurd q (by decide))
        refine lv_aload_n hx hb dX7_goes_106 rfl (lv_at hl 2 rfl) ?_
        refine m_g_s S hin7 hK hM (hts (.fieldLink RX7 7 "EnergyDiscsModel" "s" "[J") (by decide +kernel)) dX7_goes_107 ?_
        refine lv_iload_n hx hb dX7_goes_110 rfl (lv_at hl 3 rfl) ?_
        refine x_iconst hx hb dX7_goes_111 ?_
        refine x_iadd hx hb dX7_goes_112 ?_
        refine m_l_s S hK hM (by omega) dX7_goes_113 ?_
        refine x_lconst (v := 0) hx hb dX7_goes_114 rfl ?_
        refine x_lcmp_ne (tgt := 131) hx hb dX7_goes_115 dX7_goes_116 (by decide) (by omega) (by omega) (fun c_115 => ?_) (fun c_115 => ?_)
        · refine lv_lload hx hb dX7_goes_131 (lv_at hl 1 rfl) ?_
          refine x_lconst (v := 0) hx hb dX7_goes_133 rfl ?_
          refine x_lcmp_ne (tgt := 142) hx hb dX7_goes_134 dX7_goes_135 (by decide) (by omega) (by omega) (fun c_134 => ?_) (fun c_134 => ?_)
          · refine lv_lload hx hb dX7_goes_142 (lv_at hl 1 rfl) ?_
            refine lv_aload_n hx hb dX7_goes_144 rfl (lv_at hl 2 rfl) ?_
            refine m_g_s S hin7 hK hM (hts (.fieldLink RX7 7 "EnergyDiscsModel" "s" "[J") (by decide +kernel)) dX7_goes_145 ?_
            refine lv_iload_n hx hb dX7_goes_148 rfl (lv_at hl 3 rfl) ?_
            refine x_iconst hx hb dX7_goes_149 ?_
            refine x_iadd hx hb dX7_goes_150 ?_
            refine m_l_s S hK hM (by omega) dX7_goes_151 ?_
            refine x_ladd hx hb dX7_goes_152 ?_
            refine lv_lstore (lv' := [(7, .long (zL ((σ ((q + 11 + 13 * k) + 1)) + (σ (q + 1))))), (6, .int (zI 0)), (4, .long (zL (σ ((q + 11 + 13 * k) + 1)))), (0, .ref (a 0)), (1, .int (zI q)), (2, .int (zI k)), (3, .int (zI pw))]) hx hb dX7_goes_153 hl (by decide) rfl (fun ls hl => ?_)
            refine lv_lload hx hb dX7_goes_155 (lv_at hl 0 rfl) ?_
            refine x_ldc2 (v := 6000) hx hb hown (hts (.constantLong RX7 68 (zL 6000)) (by decide +kernel)) dX7_goes_157 ?_
            refine x_lcmp_le (tgt := 170) hx hb dX7_goes_160 dX7_goes_161 (by decide) (by omega) (by omega) (fun c_160 => ?_) (fun c_160 => ?_)
            · refine lv_lload hx hb dX7_goes_170 (lv_at hl 0 rfl) ?_
              exact x_lretR hx hb hr hlocks (by unfold goesS; (repeat (first | rw [if_pos (by omega)] | rw [if_neg (by omega)])) <;> rfl) rfl dX7_goes_172
            · refine x_ldc2 (v := 6000) hx hb hown (hts (.constantLong RX7 68 (zL 6000)) (by decide +kernel)) dX7_goes_164 ?_
              refine lv_goto (tgt := 172) hx hb dX7_goes_167 (by decide) ?_
              exact x_lretR hx hb hr hlocks (by unfold goesS; (repeat (first | rw [if_pos (by omega)] | rw [if_neg (by omega)])) <;> rfl) rfl dX7_goes_172
          · refine x_lconst (v := 0) hx hb dX7_goes_138 rfl ?_
            refine lv_goto (tgt := 153) hx hb dX7_goes_139 (by decide) ?_
            refine lv_lstore (lv' := [(7, .long (zL 0)), (6, .int (zI 0)), (4, .long (zL (σ ((q + 11 + 13 * k) + 1)))), (0, .ref (a 0)), (1, .int (zI q)), (2, .int (zI k)), (3, .int (zI pw))]) hx hb dX7_goes_153 hl (by decide) rfl (fun ls hl => ?_)
            refine lv_lload hx hb dX7_goes_155 (lv_at hl 0 rfl) ?_
            refine x_ldc2 (v := 6000) hx hb hown (hts (.constantLong RX7 68 (zL 6000)) (by decide +kernel)) dX7_goes_157 ?_
            refine x_lcmp_le (tgt := 170) hx hb dX7_goes_160 dX7_goes_161 (by decide) (by decide) (by decide) (fun _ => ?_) (fun q => absurd q (by decide))
            refine lv_lload hx hb dX7_goes_170 (lv_at hl 0 rfl) ?_
            exact x_lretR hx hb hr hlocks (by unfold goesS; (repeat (first | rw [if_pos (by omega)] | rw [if_neg (by omega)])) <;> rfl) rfl dX7_goes_172
        · refine lv_lload hx hb dX7_goes_119 (lv_at hl 1 rfl) ?_
          refine lv_aload_n hx hb dX7_goes_121 rfl (lv_at hl 2 rfl) ?_
          refine m_g_s S hin7 hK hM (hts (.fieldLink RX7 7 "EnergyDiscsModel" "s" "[J") (by decide +kernel)) dX7_goes_122 ?_
          refine lv_iload_n hx hb dX7_goes_125 rfl (lv_at hl 3 rfl) ?_
          refine x_iconst hx hb dX7_goes_126 ?_
          refine x_iadd hx hb dX7_goes_127 ?_
          refine m_l_s S hK hM (by omega) dX7_goes_128 ?_
          refine x_ladd hx hb dX7_goes_129 ?_
          exact x_lretR hx hb hr hlocks (by unfold goesS; (repeat (first | rw [if_pos (by omega)] | rw [if_neg (by omega)])) <;> rfl) rfl dX7_goes_130
    · refine lv_iload_n hx hb dX7_goes_53 rfl (lv_at hl 5 rfl) ?_
      refine x_i2l hx hb (by omega) dX7_goes_54 ?_
      refine lv_aload_n hx hb dX7_goes_55 rfl (lv_at hl 2 rfl) ?_
      refine m_g_s S hin7 hK hM (hts (.fieldLink RX7 7 "EnergyDiscsModel" "s" "[J") (by decide +kernel)) dX7_goes_56 ?_
      refine lv_iload_n hx hb dX7_goes_59 rfl (lv_at hl 3 rfl) ?_
      refine lv_iload_n hx hb dX7_goes_60 rfl (lv_at hl 4 rfl) ?_
      refine x_callSR (As := [.int (zI q), .int (zI k)]) (rest := [.ref (a 1), .long (zL pw)]) S hK (c_X7_at l D cs q k ) (va_cwS 2 hts gX7_goes_X7_at rfl rfl rfl (by decide +kernel) ⟨(Nat.le_of_ble_eq_true rfl), (Nat.le_of_ble_eq_true rfl)⟩) trivial rfl hl.1 (Nat.le_of_ble_eq_true rfl) dX7_goes_61 ⟨Nat.zero_le _, Nat.zero_le _⟩ ?_
      refine x_iconst hx hb dX7_goes_64 ?_
      refine x_iadd hx hb dX7_goes_65 ?_
      refine m_l_s S hK hM (by omega) dX7_goes_66 ?_
      refine x_lmul hx hb dX7_goes_67 ?_
      refine x_ldc2 (v := 100) hx hb hown (hts (.constantLong RX7 66 (zL 100)) (by decide +kernel)) dX7_goes_68 ?_
      refine x_ldiv hx hb (by omega) (by omega) dX7_goes_71 ?_
      refine lv_lstore (lv' := [(7, .long (zL ((pw * (σ ((q + 11 + 13 * k) + 2))) / 100))), (6, .int (zI 0)), (4, .long (zL (σ ((q + 11 + 13 * k) + 1)))), (0, .ref (a 0)), (1, .int (zI q)), (2, .int (zI k)), (3, .int (zI pw))]) hx hb dX7_goes_72 hl (by decide) rfl (fun ls hl => ?_)
      refine lv_lload hx hb dX7_goes_74 (lv_at hl 2 rfl) ?_
      refine lv_iload hx hb dX7_goes_76 (lv_at hl 1 rfl) ?_
      refine x_if_eq (tgt := 90) hx hb dX7_goes_78 (by decide) (by decide) (fun _ => ?_) (fun q => absurd q (by decide))
      refine lv_lload hx hb dX7_goes_90 (lv_at hl 0 rfl) ?_
      refine x_ladd hx hb dX7_goes_92 ?_
      exact x_lretR hx hb hr hlocks (by unfold goesS; (repeat (first | rw [if_pos (by omega)] | rw [if_neg (by omega)])) <;> rfl) rfl dX7_goes_93
  · refine x_iconst hx hb dX7_goes_32 ?_
    refine lv_goto (tgt := 37) hx hb dX7_goes_33 (by decide) ?_
    refine lv_istore (lv' := [(6, .int (zI 1)), (4, .long (zL (σ ((q + 11 + 13 * k) + 1)))), (0, .ref (a 0)), (1, .int (zI q)), (2, .int (zI k)), (3, .int (zI pw))]) hx hb dX7_goes_37 hl (by decide) rfl (fun ls hl => ?_)
    refine lv_iload_n hx hb dX7_goes_39 rfl (lv_at hl 5 rfl) ?_
    refine x_i2l hx hb (by omega) dX7_goes_40 ?_
    refine lv_aload_n hx hb dX7_goes_41 rfl (lv_at hl 2 rfl) ?_
    refine m_g_s S hin7 hK hM (hts (.fieldLink RX7 7 "EnergyDiscsModel" "s" "[J") (by decide +kernel)) dX7_goes_42 ?_
    refine lv_iload_n hx hb dX7_goes_45 rfl (lv_at hl 3 rfl) ?_
    refine x_iconst hx hb dX7_goes_46 ?_
    refine x_iadd hx hb dX7_goes_47 ?_
    refine m_l_s S hK hM (by omega) dX7_goes_48 ?_
    refine x_lcmp_le (tgt := 94) hx hb dX7_goes_49 dX7_goes_50 (by decide) (by omega) (by omega) (fun c_49 => ?_) (fun c_49 => ?_)
    · refine lv_iload_n hx hb dX7_goes_94 rfl (lv_at hl 5 rfl) ?_
      refine x_if_gt (tgt := 103) hx hb dX7_goes_95 (by decide) (by omega) (fun c_95 => ?_) (fun c_95 => ?_)
      · refine lv_lload hx hb dX7_goes_103 (lv_at hl 1 rfl) ?_
        exact x_lretR hx hb hr hlocks (by unfold goesS; (repeat (first | rw [if_pos (by omega)] | rw [if_neg (by omega)])) <;> rfl) rfl dX7_goes_105
      · refine lv_iload hx hb dX7_goes_98 (lv_at hl 0 rfl) ?_
        refine x_if_eq (tgt := 106) hx hb dX7_goes_100 (by decide) (by decide) (fun q => absurd q (by decide)) (fun _ => ?_)
        refine lv_lload hx hb dX7_goes_103 (lv_at hl 1 rfl) ?_
        exact x_lretR hx hb hr hlocks (by unfold goesS; (repeat (first | rw [if_pos (by omega)] | rw [if_neg (by omega)])) <;> rfl) rfl dX7_goes_105
    · refine lv_iload_n hx hb dX7_goes_53 rfl (lv_at hl 5 rfl) ?_
      refine x_i2l hx hb (by omega) dX7_goes_54 ?_
      refine lv_aload_n hx hb dX7_goes_55 rfl (lv_at hl 2 rfl) ?_
      refine m_g_s S hin7 hK hM (hts (.fieldLink RX7 7 "EnergyDiscsModel" "s" "[J") (by decide +kernel)) dX7_goes_56 ?_
      refine lv_iload_n hx hb dX7_goes_59 rfl (lv_at hl 3 rfl) ?_
      refine lv_iload_n hx hb dX7_goes_60 rfl (lv_at hl 4 rfl) ?_
      refine x_callSR (As := [.int (zI q), .int (zI k)]) (rest := [.ref (a 1), .long (zL pw)]) S hK (c_X7_at l D cs q k ) (va_cwS 2 hts gX7_goes_X7_at rfl rfl rfl (by decide +kernel) ⟨(Nat.le_of_ble_eq_true rfl), (Nat.le_of_ble_eq_true rfl)⟩) trivial rfl hl.1 (Nat.le_of_ble_eq_true rfl) dX7_goes_61 ⟨Nat.zero_le _, Nat.zero_le _⟩ ?_
      refine x_iconst hx hb dX7_goes_64 ?_
      refine x_iadd hx hb dX7_goes_65 ?_
      refine m_l_s S hK hM (by omega) dX7_goes_66 ?_
      refine x_lmul hx hb dX7_goes_67 ?_
      refine x_ldc2 (v := 100) hx hb hown (hts (.constantLong RX7 66 (zL 100)) (by decide +kernel)) dX7_goes_68 ?_
      refine x_ldiv hx hb (by omega) (by omega) dX7_goes_71 ?_
      refine lv_lstore (lv' := [(7, .long (zL ((pw * (σ ((q + 11 + 13 * k) + 2))) / 100))), (6, .int (zI 1)), (4, .long (zL (σ ((q + 11 + 13 * k) + 1)))), (0, .ref (a 0)), (1, .int (zI q)), (2, .int (zI k)), (3, .int (zI pw))]) hx hb dX7_goes_72 hl (by decide) rfl (fun ls hl => ?_)
      refine lv_lload hx hb dX7_goes_74 (lv_at hl 2 rfl) ?_
      refine lv_iload hx hb dX7_goes_76 (lv_at hl 1 rfl) ?_
      refine x_if_eq (tgt := 90) hx hb dX7_goes_78 (by decide) (by decide) (fun q => absurd q (by decide)) (fun _ => ?_)
      refine lv_lload hx hb dX7_goes_81 (lv_at hl 0 rfl) ?_
      refine x_ldc2 (v := 2) hx hb hown (hts (.constantLong RX7 29 (zL 2)) (by decide +kernel)) dX7_goes_83 ?_
      refine x_ldiv hx hb (by omega) (by omega) dX7_goes_86 ?_
      refine lv_goto (tgt := 92) hx hb dX7_goes_87 (by decide) ?_
      refine x_ladd hx hb dX7_goes_92 ?_
      exact x_lretR hx hb hr hlocks (by unfold goesS; (repeat (first | rw [if_pos (by omega)] | rw [if_neg (by omega)])) <;> rfl) rfl dX7_goes_93
set_option maxHeartbeats 4000000 in
set_option maxRecDepth 100000 in
theorem c_X7_passesOne (l : Launch) (D : va_G) (cs : Nat → ClassId) (a : Int → Nat) (σ : Int → Int) (pa : Int → Int) (sl : Int → Int) (sv : Int → Int) (pd : Int → Int) (kn : Int) (ln : Int) (q : Int) (k : Int) (hq : q = 0 ∨ q = 138) (hk : 0 ≤ k ∧ k < σ 7) (hL : lOK σ) (hs : sOK σ q) (hd : dOK σ q k) (hI : mI a) : kM D cs l yX7_passesOne wsX7_passesOne ({ frames := 4, cells := 0, slots := 0, locals := 90 } : Room) [.ref (a 0), .int (zI q), .int (zI k)] (fun H => mAt D cs a σ pa sl sv pd kn ln H) (some (.int (zI (pOneP σ q k / 6000)))) (fun H => mAt D cs a (pOne σ q k) pa sl sv pd kn ln H) (mC a) := by
  refine Met.ofW (cc := cX7_passesOne) (maxL := 9) (ret := (some .int)) (by decide) rfl ?_
  intro p e s m args below meth c s₁ B hml hv
  obtain ⟨rfl, hK, hM⟩ := hv
  have hx := B.exec
  have hb := B.bytes
  have hr := B.returns
  have hts := atoms_spec (ws := wsX7_passesOne) B.pre
  have hown : s.vm.findClass RX7 = some m.cls := findClass_of_methodNamed B.named
  have hlocks := B.notSynchronized
  have S : CallFix p m c cX7_passesOne 9 s (([.ref (a 0), .int (zI q), .int (zI k)] : List Value)).toArray wsX7_passesOne RX7 := ⟨hx, hb, hml, hown, hts⟩
  have hin7 : ∀ w ∈ wsX70, w ∈ wsX7_passesOne := by decide +kernel
  have hS : va_S (mC a) s.heap s.heap [] := va_S.rf
  have hl := lv_entry ([.ref (a 0), .int (zI q), .int (zI k)]) (n := 9) (Nat.le_of_ble_eq_true rfl)
  rw [lg_entry_eq]
  generalize (lg_sl ([.ref (a 0), .int (zI q), .int (zI k)]) ++ List.replicate (9 - (lg_sl ([.ref (a 0), .int (zI q), .int (zI k)])).length) Slot.unset).toArray = ls at hl ⊢
  have hl : lv_has ls 9 [(0, .ref (a 0)), (1, .int (zI q)), (2, .int (zI k))] := hl
  have h7 := hL.1
  have hpw := pwr_rng hL k
  have hsA : sOK (pOneA σ q k) q := sOK_up hs (by omega)
  have hdA : dOK (pOneA σ q k) q k := dOK_up hd (by omega)
  have hP := goesS_rng hsA hdA hpw
  have hP : 0 ≤ pOneP σ q k ∧ pOneP σ q k < 100000 := hP
  have s3 := hs.2.2.2.1
  have s6 := hs.2.2.2.2
  have d2 := hd.2.1
  have d9 := hd.2.2.1
  have e6 : pOneB σ q k (q + 6) = σ (q + 6) := (up_n (by omega)).trans (up_n (by omega))
  refine lv_iload_n hx hb dX7_passesOne_0 rfl (lv_at hl 1 rfl) ?_
  refine lv_iload_n hx hb dX7_passesOne_1 rfl (lv_at hl 2 rfl) ?_
  refine x_callSR (As := [.int (zI q), .int (zI k)]) (rest := []) S hK (c_X7_at l D cs q k ) (va_cwS 2 hts gX7_passesOne_X7_at rfl rfl rfl (by decide +kernel) ⟨(Nat.le_of_ble_eq_true rfl), (Nat.le_of_ble_eq_true rfl)⟩) trivial rfl hl.1 (Nat.le_of_ble_eq_true rfl) dX7_passesOne_2 ⟨Nat.zero_le _, Nat.zero_le _⟩ ?_
  refine lv_istore_n (lv' := [(3, .int (zI (q + 11 + 13 * k))), (0, .ref (a 0)), (1, .int (zI q)), (2, .int (zI k))]) hx hb dX7_passesOne_5 rfl hl (by decide) rfl (fun ls hl => ?_)
  refine lv_aload_n hx hb dX7_passesOne_6 rfl (lv_at hl 1 rfl) ?_
  refine lv_iload_n hx hb dX7_passesOne_7 rfl (lv_at hl 3 rfl) ?_
  refine x_callVR (As := [.int (zI k)]) (rest := []) S hK (c_X7_power l D cs a σ pa sl sv pd kn ln k (by omega) (by omega)) (cwV 1 hts gX7_passesOne_X7_power rfl rfl rfl (by decide +kernel) ⟨(Nat.le_of_ble_eq_true rfl), (Nat.le_of_ble_eq_true rfl)⟩) (x_rc hK (mAt_0 hM) rfl) hM rfl hl.1 (Nat.le_of_ble_eq_true rfl) dX7_passesOne_8 ⟨Nat.zero_le _, Nat.zero_le _⟩ ?_
  refine lv_istore (lv' := [(4, .int (zI (pwr σ k))), (3, .int (zI (q + 11 + 13 * k))), (0, .ref (a 0)), (1, .int (zI q)), (2, .int (zI k))]) hx hb dX7_passesOne_11 hl (by decide) rfl (fun ls hl => ?_)
  refine lv_aload_n hx hb dX7_passesOne_13 rfl (lv_at hl 2 rfl) ?_
  refine m_g_s S hin7 hK hM (hts (.fieldLink RX7 7 "EnergyDiscsModel" "s" "[J") (by decide +kernel)) dX7_passesOne_14 ?_
  refine lv_iload_n hx hb dX7_passesOne_17 rfl (lv_at hl 1 rfl) ?_
  refine x_iconst hx hb dX7_passesOne_18 ?_
  refine x_iadd hx hb dX7_passesOne_19 ?_
  refine lv_dup2_11 hx hb dX7_passesOne_20 rfl rfl ?_
  refine m_l_s S hK hM (by omega) dX7_passesOne_21 ?_
  refine lv_iload hx hb dX7_passesOne_22 (lv_at hl 0 rfl) ?_
  refine x_i2l hx hb (by omega) dX7_passesOne_24 ?_
  refine x_ladd hx hb dX7_passesOne_25 ?_
  refine m_s_s S hK hM hI hS (by omega) dX7_passesOne_26 (fun H locs hM hS => ?_)
  have hM : mAt D cs a (pOneA σ q k) pa sl sv pd kn ln H := hM
  refine lv_aload_n hx hb dX7_passesOne_27 rfl (lv_at hl 2 rfl) ?_
  refine lv_iload_n hx hb dX7_passesOne_28 rfl (lv_at hl 3 rfl) ?_
  refine lv_iload_n hx hb dX7_passesOne_29 rfl (lv_at hl 4 rfl) ?_
  refine lv_iload hx hb dX7_passesOne_30 (lv_at hl 0 rfl) ?_
  refine x_callVR (As := [.int (zI q), .int (zI k), .int (zI (pwr σ k))]) (rest := []) S hK (c_X7_goes l D cs a (pOneA σ q k) pa sl sv pd kn ln q k (pwr σ k) (by omega) (by omega) (by omega) (by exact hsA) (by exact hdA)) (cwV 3 hts gX7_passesOne_X7_goes rfl rfl rfl (by decide +kernel) ⟨(Nat.le_of_ble_eq_true rfl), (Nat.le_of_ble_eq_true rfl)⟩) (x_rc hK (mAt_0 hM) rfl) hM rfl hl.1 (Nat.le_of_ble_eq_true rfl) dX7_passesOne_32 ⟨Nat.zero_le _, Nat.zero_le _⟩ ?_
  refine lv_lstore (lv' := [(5, .long (zL (pOneP σ q k))), (4, .int (zI (pwr σ k))), (3, .int (zI (q + 11 + 13 * k))), (0, .ref (a 0)), (1, .int (zI q)), (2, .int (zI k))]) hx hb dX7_passesOne_35 hl (by decide) rfl (fun ls hl => ?_)
  refine lv_lload hx hb dX7_passesOne_37 (lv_at hl 0 rfl) ?_
  refine x_ldc2 (v := 6000) hx hb hown (hts (.constantLong RX7 68 (zL 6000)) (by decide +kernel)) dX7_passesOne_39 ?_
  refine x_ldiv hx hb (by omega) (by omega) dX7_passesOne_42 ?_
  refine lv_lstore (lv' := [(7, .long (zL (pOneP σ q k / 6000))), (5, .long (zL (pOneP σ q k))), (4, .int (zI (pwr σ k))), (3, .int (zI (q + 11 + 13 * k))), (0, .ref (a 0)), (1, .int (zI q)), (2, .int (zI k))]) hx hb dX7_passesOne_43 hl (by decide) rfl (fun ls hl => ?_)
  refine lv_aload_n hx hb dX7_passesOne_45 rfl (lv_at hl 4 rfl) ?_
  refine m_g_s S hin7 hK hM (hts (.fieldLink RX7 7 "EnergyDiscsModel" "s" "[J") (by decide +kernel)) dX7_passesOne_46 ?_
  refine lv_iload_n hx hb dX7_passesOne_49 rfl (lv_at hl 3 rfl) ?_
  refine x_iconst hx hb dX7_passesOne_50 ?_
  refine x_iadd hx hb dX7_passesOne_51 ?_
  refine lv_lload hx hb dX7_passesOne_52 (lv_at hl 1 rfl) ?_
  refine x_ldc2 (v := 6000) hx hb hown (hts (.constantLong RX7 68 (zL 6000)) (by decide +kernel)) dX7_passesOne_54 ?_
  refine x_lrem hx hb (by omega) (by omega) dX7_passesOne_57 ?_
  refine m_s_s S hK hM hI hS (by omega) dX7_passesOne_58 (fun H locs hM hS => ?_)
  have hM : mAt D cs a (pOneB σ q k) pa sl sv pd kn ln H := hM
  refine lv_aload_n hx hb dX7_passesOne_59 rfl (lv_at hl 4 rfl) ?_
  refine m_g_s S hin7 hK hM (hts (.fieldLink RX7 7 "EnergyDiscsModel" "s" "[J") (by decide +kernel)) dX7_passesOne_60 ?_
  refine lv_iload_n hx hb dX7_passesOne_63 rfl (lv_at hl 3 rfl) ?_
  refine lv_aload_n hx hb dX7_passesOne_64 rfl (lv_at hl 4 rfl) ?_
  refine m_g_s S hin7 hK hM (hts (.fieldLink RX7 7 "EnergyDiscsModel" "s" "[J") (by decide +kernel)) dX7_passesOne_65 ?_
  refine lv_iload_n hx hb dX7_passesOne_68 rfl (lv_at hl 5 rfl) ?_
  refine x_bipush hx hb dX7_passesOne_69 (by decide +kernel) ?_
  refine x_iadd hx hb dX7_passesOne_71 ?_
  refine m_l_s S hK hM (by omega) dX7_passesOne_72 ?_
  refine x_callSR (As := [.long (zL ((pOneB σ q k) (q + 6)))]) (rest := [.int (zI (q + 11 + 13 * k)), .ref (a 1)]) S hK (c_X7_isNight l D cs ((pOneB σ q k) (q + 6)) (by omega)) (va_cwS 1 hts gX7_passesOne_X7_isNight rfl rfl rfl (by decide +kernel) ⟨(Nat.le_of_ble_eq_true rfl), (Nat.le_of_ble_eq_true rfl)⟩) trivial rfl hl.1 (Nat.le_of_ble_eq_true rfl) dX7_passesOne_73 ⟨Nat.zero_le _, Nat.zero_le _⟩ ?_
  refine x_ifb_eq (tgt := 83) hx hb dX7_passesOne_76 (by decide)  (fun c_76 => ?_) (fun c_76 => ?_)
  · refine x_iconst hx hb dX7_passesOne_83 ?_
    refine x_iadd hx hb dX7_passesOne_84 ?_
    refine lv_dup2_11 hx hb dX7_passesOne_85 rfl rfl ?_
    refine m_l_s S hK hM (by omega) dX7_passesOne_86 ?_
    refine lv_lload hx hb dX7_passesOne_87 (lv_at hl 0 rfl) ?_
    refine x_ladd hx hb dX7_passesOne_89 ?_
    refine m_s_s S hK hM hI hS (by omega) dX7_passesOne_90 (fun H locs hM hS => ?_)
    have hM : mAt D cs a (pOneC σ q k) pa sl sv pd kn ln H := mAt_cong hM (by unfold pOneC pOneI; first | rw [if_pos c_76] | rw [if_neg c_76]) rfl rfl rfl rfl rfl rfl
    refine lv_aload_n hx hb dX7_passesOne_91 rfl (lv_at hl 4 rfl) ?_
    refine m_g_s S hin7 hK hM (hts (.fieldLink RX7 7 "EnergyDiscsModel" "s" "[J") (by decide +kernel)) dX7_passesOne_92 ?_
    refine lv_iload_n hx hb dX7_passesOne_95 rfl (lv_at hl 3 rfl) ?_
    refine x_bipush hx hb dX7_passesOne_96 (by decide +kernel) ?_
    refine x_iadd hx hb dX7_passesOne_98 ?_
    refine lv_dup2_11 hx hb dX7_passesOne_99 rfl rfl ?_
    refine m_l_s S hK hM (by omega) dX7_passesOne_100 ?_
    refine x_lconst (v := 1) hx hb dX7_passesOne_101 rfl ?_
    refine x_ladd hx hb dX7_passesOne_102 ?_
    refine m_s_s S hK hM hI hS (by omega) dX7_passesOne_103 (fun H locs hM hS => ?_)
    have hM : mAt D cs a (pOneD σ q k) pa sl sv pd kn ln H := hM
    have hD9 : pOneD σ q k (q + 11 + 13 * k + 9) = σ (q + 11 + 13 * k + 9) + 1 := pOneD_9 hq
    have hD3 : pOneD σ q k (q + 3) = σ (q + 3) := pOneD_n hq (by omega) (by omega)
    refine lv_aload_n hx hb dX7_passesOne_104 rfl (lv_at hl 4 rfl) ?_
    refine m_g_s S hin7 hK hM (hts (.fieldLink RX7 7 "EnergyDiscsModel" "s" "[J") (by decide +kernel)) dX7_passesOne_105 ?_
    refine lv_iload_n hx hb dX7_passesOne_108 rfl (lv_at hl 3 rfl) ?_
    refine x_bipush hx hb dX7_passesOne_109 (by decide +kernel) ?_
    refine x_iadd hx hb dX7_passesOne_111 ?_
    refine m_l_s S hK hM (by omega) dX7_passesOne_112 ?_
    refine lv_aload_n hx hb dX7_passesOne_113 rfl (lv_at hl 4 rfl) ?_
    refine m_g_s S hin7 hK hM (hts (.fieldLink RX7 7 "EnergyDiscsModel" "s" "[J") (by decide +kernel)) dX7_passesOne_114 ?_
    refine lv_iload_n hx hb dX7_passesOne_117 rfl (lv_at hl 5 rfl) ?_
    refine x_iconst hx hb dX7_passesOne_118 ?_
    refine x_iadd hx hb dX7_passesOne_119 ?_
    refine m_l_s S hK hM (by omega) dX7_passesOne_120 ?_
    refine x_lcmp_lt (tgt := 166) hx hb dX7_passesOne_121 dX7_passesOne_122 (by decide) (by omega) (by omega) (fun c_121 => ?_) (fun c_121 => ?_)
    · refine lv_lload hx hb dX7_passesOne_166 (lv_at hl 0 rfl) ?_
      refine x_l2i hx hb dX7_passesOne_168 ?_
      exact x_iretM hx hb hr hlocks (by first | rfl | omega) (mAt_cong hM (by unfold pOne; first | rw [if_pos (by assumption)] | (rw [if_neg (by assumption)]; first | rw [if_pos (by omega)] | rw [if_neg (by omega)])) rfl rfl rfl rfl rfl rfl) hS dX7_passesOne_169
    · refine lv_aload_n hx hb dX7_passesOne_125 rfl (lv_at hl 4 rfl) ?_
      refine m_g_s S hin7 hK hM (hts (.fieldLink RX7 7 "EnergyDiscsModel" "s" "[J") (by decide +kernel)) dX7_passesOne_126 ?_
      refine lv_iload_n hx hb dX7_passesOne_129 rfl (lv_at hl 3 rfl) ?_
      refine x_bipush hx hb dX7_passesOne_130 (by decide +kernel) ?_
      refine x_iadd hx hb dX7_passesOne_132 ?_
      refine x_lconst (v := 0) hx hb dX7_passesOne_133 rfl ?_
      refine m_s_s S hK hM hI hS (by omega) dX7_passesOne_134 (fun H locs hM hS => ?_)
      have hM : mAt D cs a (pOneE σ q k) pa sl sv pd kn ln H := hM
      have hE2 : pOneE σ q k (q + 11 + 13 * k + 2) = σ (q + 11 + 13 * k + 2) := (up_n (by omega)).trans (pOneD_2 hq)
      refine lv_aload_n hx hb dX7_passesOne_135 rfl (lv_at hl 4 rfl) ?_
      refine m_g_s S hin7 hK hM (hts (.fieldLink RX7 7 "EnergyDiscsModel" "s" "[J") (by decide +kernel)) dX7_passesOne_136 ?_
      refine lv_iload_n hx hb dX7_passesOne_139 rfl (lv_at hl 3 rfl) ?_
      refine x_iconst hx hb dX7_passesOne_140 ?_
      refine x_iadd hx hb dX7_passesOne_141 ?_
      refine lv_dup2_11 hx hb dX7_passesOne_142 rfl rfl ?_
      refine m_l_s S hK hM (by omega) dX7_passesOne_143 ?_
      refine lv_aload_n hx hb dX7_passesOne_144 rfl (lv_at hl 4 rfl) ?_
      refine m_g_s S hin7 hK hM (hts (.fieldLink RX7 7 "EnergyDiscsModel" "s" "[J") (by decide +kernel)) dX7_passesOne_145 ?_
      refine lv_iload_n hx hb dX7_passesOne_148 rfl (lv_at hl 3 rfl) ?_
      refine x_iconst hx hb dX7_passesOne_149 ?_
      refine x_iadd hx hb dX7_passesOne_150 ?_
      refine m_l_s S hK hM (by omega) dX7_passesOne_151 ?_
      refine x_ldc2 (v := 160) hx hb hown (hts (.constantLong RX7 81 (zL 160)) (by decide +kernel)) dX7_passesOne_152 ?_
      refine x_lcmp_ge (tgt := 163) hx hb dX7_passesOne_155 dX7_passesOne_156 (by decide) (by omega) (by omega) (fun c_155 => ?_) (fun c_155 => ?_)
      · refine x_lconst (v := 0) hx hb dX7_passesOne_163 rfl ?_
        refine x_ladd hx hb dX7_passesOne_164 ?_
        refine m_s_s S hK hM hI hS (by omega) dX7_passesOne_165 (fun H locs hM hS => ?_)
        refine lv_lload hx hb dX7_passesOne_166 (lv_at hl 0 rfl) ?_
        refine x_l2i hx hb dX7_passesOne_168 ?_
        exact x_iretM hx hb hr hlocks (by first | rfl | omega) (mAt_cong hM (by unfold pOne; first | rw [if_pos (by assumption)] | (rw [if_neg (by assumption)]; first | rw [if_pos (by omega)] | rw [if_neg (by omega)])) rfl rfl rfl rfl rfl rfl) hS dX7_passesOne_169
      · refine x_lconst (v := 1) hx hb dX7_passesOne_159 rfl ?_
        refine lv_goto (tgt := 164) hx hb dX7_passesOne_160 (by decide) ?_
        refine x_ladd hx hb dX7_passesOne_164 ?_
        refine m_s_s S hK hM hI hS (by omega) dX7_passesOne_165 (fun H locs hM hS => ?_)
        refine lv_lload hx hb dX7_passesOne_166 (lv_at hl 0 rfl) ?_
        refine x_l2i hx hb dX7_passesOne_168 ?_
        exact x_iretM hx hb hr hlocks (by first | rfl | omega) (mAt_cong hM (by unfold pOne; first | rw [if_pos (by assumption)] | (rw [if_neg (by assumption)]; first | rw [if_pos (by omega)] | rw [if_neg (by omega)])) rfl rfl rfl rfl rfl rfl) hS dX7_passesOne_169
  · refine x_iconst hx hb dX7_passesOne_79 ?_
    refine lv_goto (tgt := 84) hx hb dX7_passesOne_80 (by decide) ?_
    refine x_iadd hx hb dX7_passesOne_84 ?_
    refine lv_dup2_11 hx hb dX7_passesOne_85 rfl rfl ?_
    refine m_l_s S hK hM (by omega) dX7_passesOne_86 ?_
    refine lv_lload hx hb dX7_passesOne_87 (lv_at hl 0 rfl) ?_
    refine x_ladd hx hb dX7_passesOne_89 ?_
    refine m_s_s S hK hM hI hS (by omega) dX7_passesOne_90 (fun H locs hM hS => ?_)
    have hM : mAt D cs a (pOneC σ q k) pa sl sv pd kn ln H := mAt_cong hM (by unfold pOneC pOneI; first | rw [if_pos c_76] | rw [if_neg c_76]) rfl rfl rfl rfl rfl rfl
    refine lv_aload_n hx hb dX7_passesOne_91 rfl (lv_at hl 4 rfl) ?_
    refine m_g_s S hin7 hK hM (hts (.fieldLink RX7 7 "EnergyDiscsModel" "s" "[J") (by decide +kernel)) dX7_passesOne_92 ?_
    refine lv_iload_n hx hb dX7_passesOne_95 rfl (lv_at hl 3 rfl) ?_
    refine x_bipush hx hb dX7_passesOne_96 (by decide +kernel) ?_
    refine x_iadd hx hb dX7_passesOne_98 ?_
    refine lv_dup2_11 hx hb dX7_passesOne_99 rfl rfl ?_
    refine m_l_s S hK hM (by omega) dX7_passesOne_100 ?_
    refine x_lconst (v := 1) hx hb dX7_passesOne_101 rfl ?_
    refine x_ladd hx hb dX7_passesOne_102 ?_
    refine m_s_s S hK hM hI hS (by omega) dX7_passesOne_103 (fun H locs hM hS => ?_)
    have hM : mAt D cs a (pOneD σ q k) pa sl sv pd kn ln H := hM
    have hD9 : pOneD σ q k (q + 11 + 13 * k + 9) = σ (q + 11 + 13 * k + 9) + 1 := pOneD_9 hq
    have hD3 : pOneD σ q k (q + 3) = σ (q + 3) := pOneD_n hq (by omega) (by omega)
    refine lv_aload_n hx hb dX7_passesOne_104 rfl (lv_at hl 4 rfl) ?_
    refine m_g_s S hin7 hK hM (hts (.fieldLink RX7 7 "EnergyDiscsModel" "s" "[J") (by decide +kernel)) dX7_passesOne_105 ?_
    refine lv_iload_n hx hb dX7_passesOne_108 rfl (lv_at hl 3 rfl) ?_
    refine x_bipush hx hb dX7_passesOne_109 (by decide +kernel) ?_
    refine x_iadd hx hb dX7_passesOne_111 ?_
    refine m_l_s S hK hM (by omega) dX7_passesOne_112 ?_
    refine lv_aload_n hx hb dX7_passesOne_113 rfl (lv_at hl 4 rfl) ?_
    refine m_g_s S hin7 hK hM (hts (.fieldLink RX7 7 "EnergyDiscsModel" "s" "[J") (by decide +kernel)) dX7_passesOne_114 ?_
    refine lv_iload_n hx hb dX7_passesOne_117 rfl (lv_at hl 5 rfl) ?_
    refine x_iconst hx hb dX7_passesOne_118 ?_
    refine x_iadd hx hb dX7_passesOne_119 ?_
    refine m_l_s S hK hM (by omega) dX7_passesOne_120 ?_
    refine x_lcmp_lt (tgt := 166) hx hb dX7_passesOne_121 dX7_passesOne_122 (by decide) (by omega) (by omega) (fun c_121 => ?_) (fun c_121 => ?_)
    · refine lv_lload hx hb dX7_passesOne_166 (lv_at hl 0 rfl) ?_
      refine x_l2i hx hb dX7_passesOne_168 ?_
      exact x_iretM hx hb hr hlocks (by first | rfl | omega) (mAt_cong hM (by unfold pOne; first | rw [if_pos (by assumption)] | (rw [if_neg (by assumption)]; first | rw [if_pos (by omega)] | rw [if_neg (by omega)])) rfl rfl rfl rfl rfl rfl) hS dX7_passesOne_169
    · refine lv_aload_n hx hb dX7_passesOne_125 rfl (lv_at hl 4 rfl) ?_
      refine m_g_s S hin7 hK hM (hts (.fieldLink RX7 7 "EnergyDiscsModel" "s" "[J") (by decide +kernel)) dX7_passesOne_126 ?_
      refine lv_iload_n hx hb dX7_passesOne_129 rfl (lv_at hl 3 rfl) ?_
      refine x_bipush hx hb dX7_passesOne_130 (by decide +kernel) ?_
      refine x_iadd hx hb dX7_passesOne_132 ?_
      refine x_lconst (v := 0) hx hb dX7_passesOne_133 rfl ?_
      refine m_s_s S hK hM hI hS (by omega) dX7_passesOne_134 (fun H locs hM hS => ?_)
      have hM : mAt D cs a (pOneE σ q k) pa sl sv pd kn ln H := hM
      have hE2 : pOneE σ q k (q + 11 + 13 * k + 2) = σ (q + 11 + 13 * k + 2) := (up_n (by omega)).trans (pOneD_2 hq)
      refine lv_aload_n hx hb dX7_passesOne_135 rfl (lv_at hl 4 rfl) ?_
      refine m_g_s S hin7 hK hM (hts (.fieldLink RX7 7 "EnergyDiscsModel" "s" "[J") (by decide +kernel)) dX7_passesOne_136 ?_
      refine lv_iload_n hx hb dX7_passesOne_139 rfl (lv_at hl 3 rfl) ?_
      refine x_iconst hx hb dX7_passesOne_140 ?_
      refine x_iadd hx hb dX7_passesOne_141 ?_
      refine lv_dup2_11 hx hb dX7_passesOne_142 rfl rfl ?_
      refine m_l_s S hK hM (by omega) dX7_passesOne_143 ?_
      refine lv_aload_n hx hb dX7_passesOne_144 rfl (lv_at hl 4 rfl) ?_
      refine m_g_s S hin7 hK hM (hts (.fieldLink RX7 7 "EnergyDiscsModel" "s" "[J") (by decide +kernel)) dX7_passesOne_145 ?_
      refine lv_iload_n hx hb dX7_passesOne_148 rfl (lv_at hl 3 rfl) ?_
      refine x_iconst hx hb dX7_passesOne_149 ?_
      refine x_iadd hx hb dX7_passesOne_150 ?_
      refine m_l_s S hK hM (by omega) dX7_passesOne_151 ?_
      refine x_ldc2 (v := 160) hx hb hown (hts (.constantLong RX7 81 (zL 160)) (by decide +kernel)) dX7_passesOne_152 ?_
      refine x_lcmp_ge (tgt := 163) hx hb dX7_passesOne_155 dX7_passesOne_156 (by decide) (by omega) (by omega) (fun c_155 => ?_) (fun c_155 => ?_)
      · refine x_lconst (v := 0) hx hb dX7_passesOne_163 rfl ?_
        refine x_ladd hx hb dX7_passesOne_164 ?_
        refine m_s_s S hK hM hI hS (by omega) dX7_passesOne_165 (fun H locs hM hS => ?_)
        refine lv_lload hx hb dX7_passesOne_166 (lv_at hl 0 rfl) ?_
        refine x_l2i hx hb dX7_passesOne_168 ?_
        exact x_iretM hx hb hr hlocks (by first | rfl | omega) (mAt_cong hM (by unfold pOne; first | rw [if_pos (by assumption)] | (rw [if_neg (by assumption)]; first | rw [if_pos (by omega)] | rw [if_neg (by omega)])) rfl rfl rfl rfl rfl rfl) hS dX7_passesOne_169
      · refine x_lconst (v := 1) hx hb dX7_passesOne_159 rfl ?_
        refine lv_goto (tgt := 164) hx hb dX7_passesOne_160 (by decide) ?_
        refine x_ladd hx hb dX7_passesOne_164 ?_
        refine m_s_s S hK hM hI hS (by omega) dX7_passesOne_165 (fun H locs hM hS => ?_)
        refine lv_lload hx hb dX7_passesOne_166 (lv_at hl 0 rfl) ?_
        refine x_l2i hx hb dX7_passesOne_168 ?_
        exact x_iretM hx hb hr hlocks (by first | rfl | omega) (mAt_cong hM (by unfold pOne; first | rw [if_pos (by assumption)] | (rw [if_neg (by assumption)]; first | rw [if_pos (by omega)] | rw [if_neg (by omega)])) rfl rfl rfl rfl rfl rfl) hS dX7_passesOne_169
end
section
/-! copies of a row into another -/
def cpN (f g : Int → Int) (d j : Int) : Int → Int := fun i => if d ≤ i ∧ i < d + j then g (i - d) else f i
theorem cpN_0 (f g : Int → Int) (d : Int) : cpN f g d 0 = f := by
  funext i
  exact if_neg (by omega)
theorem cpN_step {f g : Int → Int} {d j i v : Int} (hi : i = d + j) (hv : v = g j) (h : 0 ≤ j) : up (cpN f g d j) i v = cpN f g d (j + 1) := by
  subst hi; subst hv
  funext x
  unfold up cpN
  by_cases e : x = d + j
  · subst e
    rw [if_pos rfl, if_pos (by omega)]
    congr 1; omega
  · rw [if_neg e]
    by_cases q : d ≤ x ∧ x < d + j
    · rw [if_pos q, if_pos (by omega)]
    · rw [if_neg q, if_neg (by omega)]
theorem cpN_in {f g : Int → Int} {d j i : Int} (h : d ≤ i ∧ i < d + j) : cpN f g d j i = g (i - d) := if_pos h
theorem cpN_out {f g : Int → Int} {d j i : Int} (h : ¬ (d ≤ i ∧ i < d + j)) : cpN f g d j i = f i := if_neg h
/-- what remembers() does -/
def remQ (kn : Int) : Int := if kn = 6 then 5 else kn
def remO (pa : Int → Int) (kn : Int) : Int → Int := if kn = 6 then cpN pa (fun i => pa (138 + i)) 0 690 else pa
def remP (σ pa : Int → Int) (kn : Int) : Int → Int := cpN (remO pa kn) σ (138 * remQ kn) 138
def remK (kn : Int) : Int := remQ kn + 1
/-! minutes -/
def gOK (σ : Int → Int) (q : Int) : Prop := lOK σ ∧ sOK σ q ∧ ∀ k : Int, 0 ≤ k → k < σ 7 → dOK σ q k
theorem pOne_n {σ : Int → Int} {q k i : Int} (h : i ≠ q + 11 + 13 * k + 1 ∧ i ≠ q + 11 + 13 * k + 2 ∧ i ≠ q + 11 + 13 * k + 3 ∧ i ≠ q + 11 + 13 * k + 4 ∧ i ≠ q + 11 + 13 * k + 5 ∧ i ≠ q + 11 + 13 * k + 9) : pOne σ q k i = σ i := by
  have hD : pOneD σ q k i = σ i := by
    unfold pOneD
    rw [up_n (by omega), pOneC_n (by omega) (by omega) (by omega) (by omega)]
  unfold pOne
  split
  · exact hD
  · unfold pOneE
    rw [up_n (by omega), up_n (by omega)]
    exact hD
theorem pOne_1 {σ : Int → Int} {q k : Int} (hq : q = 0 ∨ q = 138) (hk : 0 ≤ k) : pOne σ q k (q + 11 + 13 * k + 1) = pOneP σ q k % 6000 := by
  have hI : q + 11 + 13 * k + 1 ≠ pOneI σ q k := by unfold pOneI; split <;> omega
  have hD : pOneD σ q k (q + 11 + 13 * k + 1) = pOneP σ q k % 6000 := by
    unfold pOneD
    rw [up_n (by omega)]
    unfold pOneC
    rw [up_n hI]
    exact up_s _ _ _
  unfold pOne
  split
  · exact hD
  · unfold pOneE
    rw [up_n (by omega), up_n (by omega)]
    exact hD
theorem pOne_2 {σ : Int → Int} {q k : Int} (hq : q = 0 ∨ q = 138) (hk : 0 ≤ k) : pOne σ q k (q + 11 + 13 * k + 2) = if σ (q + 11 + 13 * k + 9) + 1 < σ (q + 3) then σ (q + 11 + 13 * k + 2) else if σ (q + 11 + 13 * k + 2) < 160 then σ (q + 11 + 13 * k + 2) + 1 else σ (q + 11 + 13 * k + 2) := by
  have h9 := pOneD_9 (σ := σ) (q := q) (k := k) hq
  have h3 := pOneD_n (σ := σ) (q := q) (k := k) (i := q + 3) hq (by omega) hk
  have h2 := pOneD_2 (σ := σ) (q := q) (k := k) hq
  have hE : pOneE σ q k (q + 11 + 13 * k + 2) = σ (q + 11 + 13 * k + 2) := (up_n (by omega)).trans h2
  unfold pOne
  rw [h9, h3]
  split
  · exact h2
  · rw [up_s, hE]
    split <;> omega
theorem pOne_9 {σ : Int → Int} {q k : Int} (hq : q = 0 ∨ q = 138) (hk : 0 ≤ k) : pOne σ q k (q + 11 + 13 * k + 9) = if σ (q + 11 + 13 * k + 9) + 1 < σ (q + 3) then σ (q + 11 + 13 * k + 9) + 1 else 0 := by
  have h9 := pOneD_9 (σ := σ) (q := q) (k := k) hq
  have h3 := pOneD_n (σ := σ) (q := q) (k := k) (i := q + 3) hq (by omega) hk
  unfold pOne
  rw [h9, h3]
  split
  · exact h9
  · unfold pOneE
    rw [up_n (by omega), up_s]
theorem lOK_of {σ τ : Int → Int} (h : lOK σ) (h7 : τ 7 = σ 7) (h8 : τ 8 = σ 8) (hm : ∀ i : Int, 1 ≤ i → i < σ 7 → τ (11 + 13 * i) = σ (11 + 13 * i)) (hl : ∀ j : Int, 102 ≤ j → j < 138 → τ j = σ j) : lOK τ := by
  obtain ⟨h1, h2, h3, h4⟩ := h
  refine ⟨by rw [h7]; exact h1, by rw [h8]; exact h2, fun i a b => ?_, fun j a b => ?_⟩
  · rw [h7] at b
    rw [hm i a b]
    exact h3 i a b
  · rw [h8] at b
    rw [hl (102 + 3 * j) (by omega) (by omega), hl (102 + 3 * j + 1) (by omega) (by omega), hl (102 + 3 * j + 2) (by omega) (by omega), h7]
    exact h4 j a b
theorem sOK_of {σ τ : Int → Int} {q : Int} (h : sOK σ q) (h0 : τ (q + 0) = σ (q + 0)) (h1 : τ (q + 1) = σ (q + 1)) (h2 : τ (q + 2) = σ (q + 2)) (h3 : τ (q + 3) = σ (q + 3)) (h6 : 0 ≤ τ (q + 6) ∧ τ (q + 6) < 1000000) : sOK τ q := by
  unfold sOK
  rw [h0, h1, h2, h3]
  exact ⟨h.1, h.2.1, h.2.2.1, h.2.2.2.1, h6⟩
theorem gOK_pOne {σ : Int → Int} {q k : Int} (h : gOK σ q) (hq : q = 0 ∨ q = 138) (hk : 0 ≤ k ∧ k < σ 7) : gOK (pOne σ q k) q := by
  obtain ⟨hL, hS, hD⟩ := h
  have h7 := hL.1
  have e7 : pOne σ q k 7 = σ 7 := pOne_n (by omega)
  refine ⟨lOK_of hL e7 (pOne_n (by omega)) (fun i a b => pOne_n (by omega)) (fun j a b => pOne_n (by omega)), sOK_of hS (pOne_n (by omega)) (pOne_n (by omega)) (pOne_n (by omega)) (pOne_n (by omega)) (by rw [pOne_n (by omega)]; exact hS.2.2.2.2), fun j a b => ?_⟩
  rw [e7] at b
  have hj := hD j a b
  by_cases e : j = k
  · subst e
    unfold dOK
    rw [pOne_1 hq a, pOne_2 hq a, pOne_9 hq a, pOne_n (i := q + 11 + 13 * j + 7) (by omega)]
    obtain ⟨d1, d2, d3, d4⟩ := hj
    have s3 := hS.2.2.2.1
    refine ⟨by omega, ?_, ?_, d4⟩
    · split
      · exact d2
      · split <;> omega
    · split <;> omega
  · unfold dOK
    rw [pOne_n (i := q + 11 + 13 * j + 1) (by omega), pOne_n (i := q + 11 + 13 * j + 2) (by omega), pOne_n (i := q + 11 + 13 * j + 9) (by omega), pOne_n (i := q + 11 + 13 * j + 7) (by omega)]
    exact hj
theorem gOK_time {σ : Int → Int} {q v : Int} (h : gOK σ q) (hq : q = 0 ∨ q = 138) (hv : 0 ≤ v ∧ v < 1000000) : gOK (up σ (q + 6) v) q := by
  obtain ⟨hL, hS, hD⟩ := h
  have h7 := hL.1
  have e7 : up σ (q + 6) v 7 = σ 7 := up_n (by omega)
  refine ⟨lOK_of hL e7 (up_n (by omega)) (fun i a b => up_n (by omega)) (fun j a b => up_n (by omega)), sOK_of hS (up_n (by omega)) (up_n (by omega)) (up_n (by omega)) (up_n (by omega)) (by rw [up_s]; exact hv), fun j a b => ?_⟩
  rw [e7] at b
  unfold dOK
  rw [up_n (k := q + 11 + 13 * j + 1) (by omega), up_n (k := q + 11 + 13 * j + 2) (by omega), up_n (k := q + 11 + 13 * j + 9) (by omega), up_n (k := q + 11 + 13 * j + 7) (by omega)]
  exact hD j a b
def pRow (σ : Int → Int) (q : Int) : Nat → Int → Int
  | 0 => σ
  | n + 1 => pOne (pRow σ q n) q n
def tRow (σ : Int → Int) (q : Int) : Nat → Int
  | 0 => 0
  | n + 1 => tRow σ q n + pOneP (pRow σ q n) q n / 6000
def pMin (σ : Int → Int) (q : Int) : Int → Int := up (pRow σ q (σ 7).toNat) (q + 6) (pRow σ q (σ 7).toNat (q + 6) + 1)
def pMins (σ : Int → Int) (q : Int) : Nat → Int → Int
  | 0 => σ
  | n + 1 => pMin (pMins σ q n) q
def tMins (σ : Int → Int) (q : Int) : Nat → Int
  | 0 => 0
  | n + 1 => tMins σ q n + tRow (pMins σ q n) q (pMins σ q n 7).toNat
/-! settings, meters, loads, visits -/
def loS (k : Int) : Int := if k = 3 then 100 else 0
def hiS (k : Int) : Int := if k = 1 then 9 else if k = 2 then 1 else if k = 3 then 5000 else 99
def setOK (k v : Int) : Prop := (0 ≤ k ∧ k ≤ 5) ∧ loS k ≤ v ∧ v ≤ hiS k
theorem loS_rng (k : Int) : 0 ≤ loS k ∧ loS k ≤ 100 := by unfold loS; split <;> omega
theorem hiS_rng (k : Int) : 0 ≤ hiS k ∧ hiS k ≤ 5000 := by unfold hiS; repeat' split <;> omega
def wnM (σ : Int → Int) (k : Int) : Int := if 0 < σ 7 ∧ ¬ (0 ≤ k ∧ k < σ 7) then -1 else if σ 7 = 7 then -4 else 0
def comZ (σ : Int → Int) : Int → Int := cpN σ (fun _ => 0) (0 + 11 + 13 * σ 7) 13
def comA (σ : Int → Int) : Int → Int := up (comZ σ) 10 (comZ σ 10 + 1)
def comB (σ : Int → Int) (k : Int) : Int → Int := up (comA σ) (0 + 11 + 13 * σ 7 + 0) (if σ 7 = 0 then -1 else k)
def comC (σ : Int → Int) (k : Int) : Int → Int := up (comB σ k) (0 + 11 + 13 * σ 7 + 2) 100
def comD (σ : Int → Int) (k : Int) : Int → Int := up (comC σ k) (0 + 11 + 13 * σ 7 + 6) (comC σ k 10)
def comF (σ : Int → Int) (k : Int) : Int → Int := up (comD σ k) 7 (comD σ k 7 + 1)
theorem comA_7 {σ : Int → Int} (h : 0 ≤ σ 7) : comA σ 7 = σ 7 := (up_n (by omega)).trans (cpN_out (by omega))
theorem comD_7 {σ : Int → Int} {k : Int} (h : 0 ≤ σ 7) : comD σ k 7 = σ 7 := (up_n (by omega)).trans ((up_n (by omega)).trans ((up_n (by omega)).trans (comA_7 h)))
def wnL (σ : Int → Int) (k w : Int) : Int := if ¬ (0 ≤ k ∧ k < σ 7) then -1 else if ¬ (1 ≤ w ∧ w ≤ 4000) then -2 else if σ 8 = 12 then -4 else 0
def ldA (σ : Int → Int) (k w : Int) : Int → Int := up (up (up σ (102 + 3 * σ 8) k) (102 + 3 * σ 8 + 1) w) (102 + 3 * σ 8 + 2) 0
def ldF (σ : Int → Int) (k w : Int) : Int → Int := up (ldA σ k w) 8 (ldA σ k w 8 + 1)
theorem ldA_8 {σ : Int → Int} {k w : Int} (h : 0 ≤ σ 8) : ldA σ k w 8 = σ 8 := (up_n (by omega)).trans ((up_n (by omega)).trans (up_n (by omega)))
def tnF (σ : Int → Int) (k : Int) : Int → Int := up σ (102 + 3 * k + 2) (1 - σ (102 + 3 * k + 2))
def wnT (σ : Int → Int) (k : Int) : Int := if ¬ (0 ≤ k ∧ k < σ 7) then -1 else if σ (11 + 13 * k + 7) = 1 then -5 else 0
def tpF (σ : Int → Int) (k : Int) : Int → Int := up σ (0 + 11 + 13 * k + 7) 1
def billS (σ : Int → Int) (k : Int) : Int := σ 4 * (σ (0 + 11 + 13 * k + 3) - σ (0 + 11 + 13 * k + 11)) + σ 5 * (σ (0 + 11 + 13 * k + 4) - σ (0 + 11 + 13 * k + 12))
def vsA (σ : Int → Int) (k : Int) : Int → Int := up σ (0 + 11 + 13 * k + 11) (σ (0 + 11 + 13 * k + 3))
def vsB (σ : Int → Int) (k : Int) : Int → Int := up (vsA σ k) (0 + 11 + 13 * k + 12) (vsA σ k (0 + 11 + 13 * k + 4))
def vsC (σ : Int → Int) (k : Int) : Int → Int := up (vsB σ k) (0 + 11 + 13 * k + 8) (vsB σ k (0 + 11 + 13 * k + 8) + billS σ k)
def vsD (σ : Int → Int) (k : Int) : Int → Int := up (vsC σ k) 9 (vsC σ k 9 + billS σ k)
def vsE (σ : Int → Int) (k : Int) : Int → Int := up (up (vsD σ k) (0 + 11 + 13 * k + 2) 100) (0 + 11 + 13 * k + 9) 0
def vsG (σ : Int → Int) (k : Int) : Int → Int := up (vsE σ k) (0 + 11 + 13 * k + 10) (vsE σ k (0 + 11 + 13 * k + 10) + 1)
def vsH (σ : Int → Int) (k : Int) : Int → Int := up (vsG σ k) 10 (vsG σ k 10 + 1)
def vsF (σ : Int → Int) (k : Int) : Int → Int := if vsG σ k (0 + 11 + 13 * k + 7) = 1 then up (up (vsH σ k) (0 + 11 + 13 * k + 6) (vsH σ k 10)) (0 + 11 + 13 * k + 7) 0 else vsG σ k
def wnP (σ : Int → Int) (n : Int) : Int := if ¬ (1 ≤ n ∧ n ≤ 1440) then -2 else if 99999 < σ 6 + n then -5 else 0
theorem vsG_7 {σ : Int → Int} {k : Int} (hk : 0 ≤ k) : vsG σ k (0 + 11 + 13 * k + 7) = σ (0 + 11 + 13 * k + 7) := (up_n (by omega)).trans ((up_n (by omega)).trans ((up_n (by omega)).trans ((up_n (by omega)).trans ((up_n (by omega)).trans ((up_n (by omega)).trans (up_n (by omega)))))))
/-! numbers into texts -/
def dgs : Nat → Int → Nat
  | 0, _ => 1
  | f + 1, v => if v < 10 then 1 else dgs f (v / 10) + 1
def ndg (v : Int) : Nat := dgs 9 v
def numW (pd : Int → Int) (ln v : Int) : Int → Int := fun i => if ln ≤ i ∧ i < ln + ndg v then 48 + v / 10 ^ (ndg v - 1 - (i - ln).toNat) % 10 else pd i
section XB3
variable {p : Program} {l : Launch} {e : Env} {R : Room} {s : State} {m : MethodId} {args : Array Value} {below : List Frame} {meth : Method} {c : Code} {H : Heap} {locs : List Loc} {cells slots : Nat} {Q : State → Prop} {cc : ByteArray} {pc : Nat} {ls : Array Slot} {rest : List Value}
theorem x_tabIn (hx : p.tables.exec = Jvm.exec) (hb : c.code = cc) {dflt lo hi v k : Int} {offs : Array Int} {len : Nat} {off : Int} {tgt : Nat} (d : decode cc pc = .ok (.tableswitch dflt lo hi offs, len)) (he : v = k) (hr : -2147483648 ≤ k ∧ k < 2147483648) (h1 : ¬ k < lo) (h2 : ¬ hi < k) (ho : offs[(k - lo).toNat]? = some off) (ht : (pc : Int) + off = (tgt : Int)) (kk : W p l e R s m args below meth c H locs cells slots Q (F0 m tgt ls rest)) : W p l e R s m args below meth c H locs cells slots Q (F0 m pc ls (.int (zI v) :: rest)) := by
  subst he
  exact lv_tableIn hx hb d (by rw [zI_toInt hr]; exact h1) (by rw [zI_toInt hr]; exact h2) (by rw [zI_toInt hr]; exact ho) ht kk
theorem x_tabOut (hx : p.tables.exec = Jvm.exec) (hb : c.code = cc) {dflt lo hi v : Int} {offs : Array Int} {len : Nat} {tgt : Nat} (d : decode cc pc = .ok (.tableswitch dflt lo hi offs, len)) (h : v < lo ∨ hi < v) (hr : -2147483648 ≤ v ∧ v < 2147483648) (ht : (pc : Int) + dflt = (tgt : Int)) (kk : W p l e R s m args below meth c H locs cells slots Q (F0 m tgt ls rest)) : W p l e R s m args below meth c H locs cells slots Q (F0 m pc ls (.int (zI v) :: rest)) :=
  lv_tableOut hx hb d (by rw [zI_toInt hr]; exact h) ht kk
theorem x_look (hx : p.tables.exec = Jvm.exec) (hb : c.code = cc) {dflt v : Int} {ps : Array (Int × Int)} {len : Nat} {off : Int} {tgt : Nat} (d : decode cc pc = .ok (.lookupswitch dflt ps, len)) (hp : (ps.toList.zip (ps.toList.drop 1)).all (fun (a, next) => a.1 < next.1) = true) (ho : Op.lookupswitch.offset ps.toList dflt v = off) (hr : -2147483648 ≤ v ∧ v < 2147483648) (ht : (pc : Int) + off = (tgt : Int)) (kk : W p l e R s m args below meth c H locs cells slots Q (F0 m tgt ls rest)) : W p l e R s m args below meth c H locs cells slots Q (F0 m pc ls (.int (zI v) :: rest)) :=
  lv_lookup hx hb d hp (by rw [zI_toInt hr]; exact ho) ht kk
end XB3
end
section
set_option maxHeartbeats 4000000 in
set_option maxRecDepth 100000 in
theorem c_X7_remembers (l : Launch) (D : va_G) (cs : Nat → ClassId) (a : Int → Nat) (σ : Int → Int) (pa : Int → Int) (sl : Int → Int) (sv : Int → Int) (pd : Int → Int) (kn : Int) (ln : Int) (hn : 0 ≤ kn ∧ kn ≤ 6) (hI : mI a) : kM D cs l yX7_remembers wsX7_remembers ({ frames := 0, cells := 0, slots := 0, locals := 0 } : Room) [.ref (a 0)] (fun H => mAt D cs a σ pa sl sv pd kn ln H) none (fun H => mAt D cs a σ (remP σ pa kn) sl sv pd (remK kn) ln H) (mC a) := by
  refine Met.ofW (cc := cX7_remembers) (maxL := 2) (ret := none) (by decide) rfl ?_
  intro p e s m args below meth c s₁ B hml hv
  obtain ⟨rfl, hK, hM⟩ := hv
  have hx := B.exec
  have hb := B.bytes
  have hr := B.returns
  have hts := atoms_spec (ws := wsX7_remembers) B.pre
  have hown : s.vm.findClass RX7 = some m.cls := findClass_of_methodNamed B.named
  have hlocks := B.notSynchronized
  have S : CallFix p m c cX7_remembers 2 s (([.ref (a 0)] : List Value)).toArray wsX7_remembers RX7 := ⟨hx, hb, hml, hown, hts⟩
  have hin7 : ∀ w ∈ wsX70, w ∈ wsX7_remembers := by decide +kernel
  have hS : va_S (mC a) s.heap s.heap [] := va_S.rf
  have hl := lv_entry ([.ref (a 0)]) (n := 2) (Nat.le_of_ble_eq_true rfl)
  rw [lg_entry_eq]
  generalize (lg_sl ([.ref (a 0)]) ++ List.replicate (2 - (lg_sl ([.ref (a 0)])).length) Slot.unset).toArray = ls at hl ⊢
  have hl : lv_has ls 2 [(0, .ref (a 0))] := hl
  refine lv_aload_n hx hb dX7_remembers_0 rfl (lv_at hl 0 rfl) ?_
  refine m_g_known S hin7 hK hM (hts (.fieldLink RX7 49 "EnergyDiscsModel" "known" "I") (by decide +kernel)) dX7_remembers_1 ?_
  refine x_bipush hx hb dX7_remembers_4 (by decide +kernel) ?_
  refine x_icmp_ne (tgt := 50) hx hb dX7_remembers_6 (by decide) (by omega) (by omega) (fun c_6 => ?_) (fun c_6 => ?_)
  · have hM : mAt D cs a σ (remO pa kn) sl sv pd kn ln s.heap := mAt_cong hM rfl (by unfold remO; first | (rw [if_pos c_6, hP, hj690]) | (rw [if_neg c_6])) rfl rfl rfl rfl rfl
    have hM : mAt D cs a σ (remO pa kn) sl sv pd (remQ kn) ln s.heap := mAt_cong hM rfl rfl rfl rfl rfl (by unfold remQ; first | (rw [if_pos c_6]; omega) | (rw [if_neg c_6])) rfl
    refine x_iconst hx hb dX7_remembers_50 ?_
    refine lv_istore_n (lv' := [(1, .int (zI 0)), (0, .ref (a 0))]) hx hb dX7_remembers_51 rfl hl (by decide) rfl (fun ls hl => ?_)
    have lp52 : ∀ (n : Nat) (j : Int) (P : Int → Int), (138 - j).toNat < n → 0 ≤ j ∧ j ≤ 138 → P = cpN (remO pa kn) σ (138 * remQ kn) j → ∀ (H : Heap) (locs : List Loc), mAt D cs a σ P sl sv pd (remQ kn) ln H → va_S (mC a) s.heap H locs → ∀ (ls : Array Slot), lv_has ls 2 [(1, .int (zI j)), (0, .ref (a 0))] → W p l e (headSpec wsX7_remembers ({ frames := 0, cells := 0, slots := 0, locals := 0 } : Room)).room s m ([.ref (a 0)] : List Value).toArray below meth c H locs 0 0 (MQ below (kQ none (fun H => mAt D cs a σ (remP σ pa kn) sl sv pd (remK kn) ln H) (mC a)) ([.ref (a 0)] : List Value).toArray s 0 0 (mC a)) (F0 m 52 ls []) := by
      intro n
      induction n with
      | zero => intro j P hms; exact absurd hms (Nat.not_lt_zero _)
      | succ n ih =>
        intro j P hms hj hP H locs hM hS ls hl
        have ih52 := ih
        clear ih
        have hq := show 0 ≤ remQ kn ∧ remQ kn ≤ 5 from by unfold remQ; split <;> omega
        refine lv_iload_n hx hb dX7_remembers_52 rfl (lv_at hl 0 rfl) ?_
        refine x_sipush hx hb dX7_remembers_53 (by decide +kernel) ?_
        refine x_icmp_ge (tgt := 86) hx hb dX7_remembers_56 (by decide) (by omega) (by omega) (fun c_56 => ?_) (fun c_56 => ?_)
        · refine lv_aload_n hx hb dX7_remembers_86 rfl (lv_at hl 1 rfl) ?_
          refine lv_dup hx hb dX7_remembers_87 rfl ?_
          refine m_g_known S hin7 hK hM (hts (.fieldLink RX7 49 "EnergyDiscsModel" "known" "I") (by decide +kernel)) dX7_remembers_88 ?_
          refine x_iconst hx hb dX7_remembers_91 ?_
          refine x_iadd hx hb dX7_remembers_92 ?_
          refine m_p_known S hin7 hK hM hI hS (hts (.fieldLink RX7 49 "EnergyDiscsModel" "known" "I") (by decide +kernel)) dX7_remembers_93 (fun H locs hM hS => ?_)
          exact x_vretM hx hb hr hlocks (mAt_cong hM rfl (by rw [hP, show j = 138 by omega]; rfl) rfl rfl rfl (by rfl) rfl) hS dX7_remembers_96
        · refine lv_aload_n hx hb dX7_remembers_59 rfl (lv_at hl 1 rfl) ?_
          refine m_g_past S hin7 hK hM (hts (.fieldLink RX7 13 "EnergyDiscsModel" "past" "[J") (by decide +kernel)) dX7_remembers_60 ?_
          refine x_sipush hx hb dX7_remembers_63 (by decide +kernel) ?_
          refine lv_aload_n hx hb dX7_remembers_66 rfl (lv_at hl 1 rfl) ?_
          refine m_g_known S hin7 hK hM (hts (.fieldLink RX7 49 "EnergyDiscsModel" "known" "I") (by decide +kernel)) dX7_remembers_67 ?_
          refine x_imul hx hb dX7_remembers_70 ?_
          refine lv_iload_n hx hb dX7_remembers_71 rfl (lv_at hl 0 rfl) ?_
          refine x_iadd hx hb dX7_remembers_72 ?_
          refine lv_aload_n hx hb dX7_remembers_73 rfl (lv_at hl 1 rfl) ?_
          refine m_g_s S hin7 hK hM (hts (.fieldLink RX7 7 "EnergyDiscsModel" "s" "[J") (by decide +kernel)) dX7_remembers_74 ?_
          refine lv_iload_n hx hb dX7_remembers_77 rfl (lv_at hl 0 rfl) ?_
          refine m_l_s S hK hM (by omega) dX7_remembers_78 ?_
          refine m_s_past S hK hM hI hS (by omega) dX7_remembers_79 (fun H locs hM hS => ?_)
          refine x_iinc (x := j) (lv' := [(1, .int (zI (j + 1))), (0, .ref (a 0))]) hx hb dX7_remembers_80 hl (k := 0) rfl (by decide) rfl (fun ls hl => ?_)
          refine lv_goto (tgt := 52) hx hb dX7_remembers_83 (by decide) ?_
          exact ih52 (j + 1) (up P ((138 * (remQ kn)) + j) (σ j)) (by omega) (by omega) (by subst hP; exact cpN_step rfl rfl hj.1) H locs hM hS ls (lv_sub hl [0, 1] rfl)
    exact lp52 ((138 - (0 : Int)).toNat + 1) 0 (remO pa kn) (Nat.lt_succ_self _) (by omega) (by exact (cpN_0 _ _ _).symm) s.heap [] hM hS ls (lv_sub hl [0, 1] rfl)
  · refine x_iconst hx hb dX7_remembers_9 ?_
    refine lv_istore_n (lv' := [(1, .int (zI 0)), (0, .ref (a 0))]) hx hb dX7_remembers_10 rfl hl (by decide) rfl (fun ls hl => ?_)
    have lp11 : ∀ (n : Nat) (j : Int) (P : Int → Int), (690 - j).toNat < n → 0 ≤ j ∧ j ≤ 690 → P = cpN pa (fun i => pa (138 + i)) 0 j → ∀ (H : Heap) (locs : List Loc), mAt D cs a σ P sl sv pd kn ln H → va_S (mC a) s.heap H locs → ∀ (ls : Array Slot), lv_has ls 2 [(1, .int (zI j)), (0, .ref (a 0))] → W p l e (headSpec wsX7_remembers ({ frames := 0, cells := 0, slots := 0, locals := 0 } : Room)).room s m ([.ref (a 0)] : List Value).toArray below meth c H locs 0 0 (MQ below (kQ none (fun H => mAt D cs a σ (remP σ pa kn) sl sv pd (remK kn) ln H) (mC a)) ([.ref (a 0)] : List Value).toArray s 0 0 (mC a)) (F0 m 11 ls []) := by
      intro n
      induction n with
      | zero => intro j P hms; exact absurd hms (Nat.not_lt_zero _)
      | succ n ih =>
        intro j P hms hj hP H locs hM hS ls hl
        have ih11 := ih
        clear ih
        refine lv_iload_n hx hb dX7_remembers_11 rfl (lv_at hl 0 rfl) ?_
        refine x_sipush hx hb dX7_remembers_12 (by decide +kernel) ?_
        refine x_icmp_ge (tgt := 40) hx hb dX7_remembers_15 (by decide) (by omega) (by omega) (fun c_15 => ?_) (fun c_15 => ?_)
        · have hj690 : j = 690 := by omega
          refine lv_aload_n hx hb dX7_remembers_40 rfl (lv_at hl 1 rfl) ?_
          refine lv_dup hx hb dX7_remembers_41 rfl ?_
          refine m_g_known S hin7 hK hM (hts (.fieldLink RX7 49 "EnergyDiscsModel" "known" "I") (by decide +kernel)) dX7_remembers_42 ?_
          refine x_iconst hx hb dX7_remembers_45 ?_
          refine x_isub hx hb dX7_remembers_46 ?_
          refine m_p_known S hin7 hK hM hI hS (hts (.fieldLink RX7 49 "EnergyDiscsModel" "known" "I") (by decide +kernel)) dX7_remembers_47 (fun H locs hM hS => ?_)
          have hM : mAt D cs a σ (remO pa kn) sl sv pd (kn - 1) ln H := mAt_cong hM rfl (by unfold remO; first | (rw [if_pos c_6, hP, hj690]) | (rw [if_neg c_6])) rfl rfl rfl rfl rfl
          have hM : mAt D cs a σ (remO pa kn) sl sv pd (remQ kn) ln H := mAt_cong hM rfl rfl rfl rfl rfl (by unfold remQ; first | (rw [if_pos c_6]; omega) | (rw [if_neg c_6])) rfl
          refine x_iconst hx hb dX7_remembers_50 ?_
          refine lv_istore_n (lv' := [(1, .int (zI 0)), (0, .ref (a 0))]) hx hb dX7_remembers_51 rfl hl (by decide) rfl (fun ls hl => ?_)
          have lp52 : ∀ (n : Nat) (j : Int) (P : Int → Int), (138 - j).toNat < n → 0 ≤ j ∧ j ≤ 138 → P = cpN (remO pa kn) σ (138 * remQ kn) j → ∀ (H : Heap) (locs : List Loc), mAt D cs a σ P sl sv pd (remQ kn) ln H → va_S (mC a) s.heap H locs → ∀ (ls : Array Slot), lv_has ls 2 [(1, .int (zI j)), (0, .ref (a 0))] → W p l e (headSpec wsX7_remembers ({ frames := 0, cells := 0, slots := 0, locals := 0 } : Room)).room s m ([.ref (a 0)] : List Value).toArray below meth c H locs 0 0 (MQ below (kQ none (fun H => mAt D cs a σ (remP σ pa kn) sl sv pd (remK kn) ln H) (mC a)) ([.ref (a 0)] : List Value).toArray s 0 0 (mC a)) (F0 m 52 ls []) := by
            intro n
            induction n with
            | zero => intro j P hms; exact absurd hms (Nat.not_lt_zero _)
            | succ n ih =>
              intro j P hms hj hP H locs hM hS ls hl
              have ih52 := ih
              clear ih
              have hq := show 0 ≤ remQ kn ∧ remQ kn ≤ 5 from by unfold remQ; split <;> omega
              refine lv_iload_n hx hb dX7_remembers_52 rfl (lv_at hl 0 rfl) ?_
              refine x_sipush hx hb dX7_remembers_53 (by decide +kernel) ?_
              refine x_icmp_ge (tgt := 86) hx hb dX7_remembers_56 (by decide) (by omega) (by omega) (fun c_56 => ?_) (fun c_56 => ?_)
              · refine lv_aload_n hx hb dX7_remembers_86 rfl (lv_at hl 1 rfl) ?_
                refine lv_dup hx hb dX7_remembers_87 rfl ?_
                refine m_g_known S hin7 hK hM (hts (.fieldLink RX7 49 "EnergyDiscsModel" "known" "I") (by decide +kernel)) dX7_remembers_88 ?_
                refine x_iconst hx hb dX7_remembers_91 ?_
                refine x_iadd hx hb dX7_remembers_92 ?_
                refine m_p_known S hin7 hK hM hI hS (hts (.fieldLink RX7 49 "EnergyDiscsModel" "known" "I") (by decide +kernel)) dX7_remembers_93 (fun H locs hM hS => ?_)
                exact x_vretM hx hb hr hlocks (mAt_cong hM rfl (by rw [hP, show j = 138 by omega]; rfl) rfl rfl rfl (by rfl) rfl) hS dX7_remembers_96
              · refine lv_aload_n hx hb dX7_remembers_59 rfl (lv_at hl 1 rfl) ?_
                refine m_g_past S hin7 hK hM (hts (.fieldLink RX7 13 "EnergyDiscsModel" "past" "[J") (by decide +kernel)) dX7_remembers_60 ?_
                refine x_sipush hx hb dX7_remembers_63 (by decide +kernel) ?_
                refine lv_aload_n hx hb dX7_remembers_66 rfl (lv_at hl 1 rfl) ?_
                refine m_g_known S hin7 hK hM (hts (.fieldLink RX7 49 "EnergyDiscsModel" "known" "I") (by decide +kernel)) dX7_remembers_67 ?_
                refine x_imul hx hb dX7_remembers_70 ?_
                refine lv_iload_n hx hb dX7_remembers_71 rfl (lv_at hl 0 rfl) ?_
                refine x_iadd hx hb dX7_remembers_72 ?_
                refine lv_aload_n hx hb dX7_remembers_73 rfl (lv_at hl 1 rfl) ?_
                refine m_g_s S hin7 hK hM (hts (.fieldLink RX7 7 "EnergyDiscsModel" "s" "[J") (by decide +kernel)) dX7_remembers_74 ?_
                refine lv_iload_n hx hb dX7_remembers_77 rfl (lv_at hl 0 rfl) ?_
                refine m_l_s S hK hM (by omega) dX7_remembers_78 ?_
                refine m_s_past S hK hM hI hS (by omega) dX7_remembers_79 (fun H locs hM hS => ?_)
                refine x_iinc (x := j) (lv' := [(1, .int (zI (j + 1))), (0, .ref (a 0))]) hx hb dX7_remembers_80 hl (k := 0) rfl (by decide) rfl (fun ls hl => ?_)
                refine lv_goto (tgt := 52) hx hb dX7_remembers_83 (by decide) ?_
                exact ih52 (j + 1) (up P ((138 * (remQ kn)) + j) (σ j)) (by omega) (by omega) (by subst hP; exact cpN_step rfl rfl hj.1) H locs hM hS ls (lv_sub hl [0, 1] rfl)
          exact lp52 ((138 - (0 : Int)).toNat + 1) 0 (remO pa kn) (Nat.lt_succ_self _) (by omega) (by exact (cpN_0 _ _ _).symm) H locs hM hS ls (lv_sub hl [0, 1] rfl)
        · refine lv_aload_n hx hb dX7_remembers_18 rfl (lv_at hl 1 rfl) ?_
          refine m_g_past S hin7 hK hM (hts (.fieldLink RX7 13 "EnergyDiscsModel" "past" "[J") (by decide +kernel)) dX7_remembers_19 ?_
          refine lv_iload_n hx hb dX7_remembers_22 rfl (lv_at hl 0 rfl) ?_
          refine lv_aload_n hx hb dX7_remembers_23 rfl (lv_at hl 1 rfl) ?_
          refine m_g_past S hin7 hK hM (hts (.fieldLink RX7 13 "EnergyDiscsModel" "past" "[J") (by decide +kernel)) dX7_remembers_24 ?_
          refine x_sipush hx hb dX7_remembers_27 (by decide +kernel) ?_
          refine lv_iload_n hx hb dX7_remembers_30 rfl (lv_at hl 0 rfl) ?_
          refine x_iadd hx hb dX7_remembers_31 ?_
          refine m_l_past S hK hM (by omega) dX7_remembers_32 ?_
          refine m_s_past S hK hM hI hS (by omega) dX7_remembers_33 (fun H locs hM hS => ?_)
          refine x_iinc (x := j) (lv' := [(1, .int (zI (j + 1))), (0, .ref (a 0))]) hx hb dX7_remembers_34 hl (k := 0) rfl (by decide) rfl (fun ls hl => ?_)
          refine lv_goto (tgt := 11) hx hb dX7_remembers_37 (by decide) ?_
          exact ih11 (j + 1) (up P j (P (138 + j))) (by omega) (by omega) (by subst hP; exact cpN_step (by omega) (cpN_out (by omega)) hj.1) H locs hM hS ls (lv_sub hl [0, 1] rfl)
    exact lp11 ((690 - (0 : Int)).toNat + 1) 0 pa (Nat.lt_succ_self _) (by omega) (by exact (cpN_0 _ _ _).symm) s.heap [] hM hS ls (lv_sub hl [0, 1] rfl)
set_option maxHeartbeats 4000000 in
set_option maxRecDepth 100000 in
theorem c_X7_copies (l : Launch) (D : va_G) (cs : Nat → ClassId) (a : Int → Nat) (σ : Int → Int) (pa : Int → Int) (sl : Int → Int) (sv : Int → Int) (pd : Int → Int) (kn : Int) (ln : Int) (hI : mI a) : kM D cs l yX7_copies wsX7_copies ({ frames := 0, cells := 0, slots := 0, locals := 0 } : Room) [.ref (a 0)] (fun H => mAt D cs a σ pa sl sv pd kn ln H) none (fun H => mAt D cs a (cpN σ σ 138 138) pa sl sv pd kn ln H) (mC a) := by
  refine Met.ofW (cc := cX7_copies) (maxL := 2) (ret := none) (by decide) rfl ?_
  intro p e s m args below meth c s₁ B hml hv
  obtain ⟨rfl, hK, hM⟩ := hv
  have hx := B.exec
  have hb := B.bytes
  have hr := B.returns
  have hts := atoms_spec (ws := wsX7_copies) B.pre
  have hown : s.vm.findClass RX7 = some m.cls := findClass_of_methodNamed B.named
  have hlocks := B.notSynchronized
  have S : CallFix p m c cX7_copies 2 s (([.ref (a 0)] : List Value)).toArray wsX7_copies RX7 := ⟨hx, hb, hml, hown, hts⟩
  have hin7 : ∀ w ∈ wsX70, w ∈ wsX7_copies := by decide +kernel
  have hS : va_S (mC a) s.heap s.heap [] := va_S.rf
  have hl := lv_entry ([.ref (a 0)]) (n := 2) (Nat.le_of_ble_eq_true rfl)
  rw [lg_entry_eq]
  generalize (lg_sl ([.ref (a 0)]) ++ List.replicate (2 - (lg_sl ([.ref (a 0)])).length) Slot.unset).toArray = ls at hl ⊢
  have hl : lv_has ls 2 [(0, .ref (a 0))] := hl
  refine x_iconst hx hb dX7_copies_0 ?_
  refine lv_istore_n (lv' := [(1, .int (zI 0)), (0, .ref (a 0))]) hx hb dX7_copies_1 rfl hl (by decide) rfl (fun ls hl => ?_)
  have lp2 : ∀ (n : Nat) (j : Int) (P : Int → Int), (138 - j).toNat < n → 0 ≤ j ∧ j ≤ 138 → P = cpN σ σ 138 j → ∀ (H : Heap) (locs : List Loc), mAt D cs a P pa sl sv pd kn ln H → va_S (mC a) s.heap H locs → ∀ (ls : Array Slot), lv_has ls 2 [(1, .int (zI j)), (0, .ref (a 0))] → W p l e (headSpec wsX7_copies ({ frames := 0, cells := 0, slots := 0, locals := 0 } : Room)).room s m ([.ref (a 0)] : List Value).toArray below meth c H locs 0 0 (MQ below (kQ none (fun H => mAt D cs a (cpN σ σ 138 138) pa sl sv pd kn ln H) (mC a)) ([.ref (a 0)] : List Value).toArray s 0 0 (mC a)) (F0 m 2 ls []) := by
    intro n
    induction n with
    | zero => intro j P hms; exact absurd hms (Nat.not_lt_zero _)
    | succ n ih =>
      intro j P hms hj hP H locs hM hS ls hl
      have ih2 := ih
      clear ih
      refine lv_iload_n hx hb dX7_copies_2 rfl (lv_at hl 0 rfl) ?_
      refine x_sipush hx hb dX7_copies_3 (by decide +kernel) ?_
      refine x_icmp_ge (tgt := 31) hx hb dX7_copies_6 (by decide) (by omega) (by omega) (fun c_6 => ?_) (fun c_6 => ?_)
      · exact x_vretM hx hb hr hlocks (mAt_cong hM (by rw [hP, show j = 138 by omega]) rfl rfl rfl rfl rfl rfl) hS dX7_copies_31
      · refine lv_aload_n hx hb dX7_copies_9 rfl (lv_at hl 1 rfl) ?_
        refine m_g_s S hin7 hK hM (hts (.fieldLink RX7 7 "EnergyDiscsModel" "s" "[J") (by decide +kernel)) dX7_copies_10 ?_
        refine x_sipush hx hb dX7_copies_13 (by decide +kernel) ?_
        refine lv_iload_n hx hb dX7_copies_16 rfl (lv_at hl 0 rfl) ?_
        refine x_iadd hx hb dX7_copies_17 ?_
        refine lv_aload_n hx hb dX7_copies_18 rfl (lv_at hl 1 rfl) ?_
        refine m_g_s S hin7 hK hM (hts (.fieldLink RX7 7 "EnergyDiscsModel" "s" "[J") (by decide +kernel)) dX7_copies_19 ?_
        refine lv_iload_n hx hb dX7_copies_22 rfl (lv_at hl 0 rfl) ?_
        refine m_l_s S hK hM (by omega) dX7_copies_23 ?_
        refine m_s_s S hK hM hI hS (by omega) dX7_copies_24 (fun H locs hM hS => ?_)
        refine x_iinc (x := j) (lv' := [(1, .int (zI (j + 1))), (0, .ref (a 0))]) hx hb dX7_copies_25 hl (k := 0) rfl (by decide) rfl (fun ls hl => ?_)
        refine lv_goto (tgt := 2) hx hb dX7_copies_28 (by decide) ?_
        exact ih2 (j + 1) (up P (138 + j) (P j)) (by omega) (by omega) (by subst hP; exact cpN_step rfl (cpN_out (by omega)) hj.1) H locs hM hS ls (lv_sub hl [0, 1] rfl)
  exact lp2 ((138 - (0 : Int)).toNat + 1) 0 σ (Nat.lt_succ_self _) (by omega) (by exact (cpN_0 _ _ _).symm) s.heap [] hM hS ls (lv_sub hl [0, 1] rfl)
set_option maxHeartbeats 4000000 in
set_option maxRecDepth 100000 in
theorem c_X7_passes (l : Launch) (D : va_G) (cs : Nat → ClassId) (a : Int → Nat) (σ : Int → Int) (pa : Int → Int) (sl : Int → Int) (sv : Int → Int) (pd : Int → Int) (kn : Int) (ln : Int) (q : Int) (w : Int) (hq : q = 0 ∨ q = 138) (hG : gOK σ q) (hw : 0 ≤ w ∧ w ≤ 100000) (ht : σ (q + 6) + w < 1000000) (hI : mI a) : kM D cs l yX7_passes wsX7_passes ({ frames := 5, cells := 0, slots := 0, locals := 118 } : Room) [.ref (a 0), .int (zI q), .int (zI w)] (fun H => mAt D cs a σ pa sl sv pd kn ln H) (some (.int (zI (tMins σ q w.toNat)))) (fun H => mAt D cs a (pMins σ q w.toNat) pa sl sv pd kn ln H) (mC a) := by
  refine Met.ofW (cc := cX7_passes) (maxL := 6) (ret := (some .int)) (by decide) rfl ?_
  intro p e s m args below meth c s₁ B hml hv
  obtain ⟨rfl, hK, hM⟩ := hv
  have hx := B.exec
  have hb := B.bytes
  have hr := B.returns
  have hts := atoms_spec (ws := wsX7_passes) B.pre
  have hown : s.vm.findClass RX7 = some m.cls := findClass_of_methodNamed B.named
  have hlocks := B.notSynchronized
  have S : CallFix p m c cX7_passes 6 s (([.ref (a 0), .int (zI q), .int (zI w)] : List Value)).toArray wsX7_passes RX7 := ⟨hx, hb, hml, hown, hts⟩
  have hin7 : ∀ w ∈ wsX70, w ∈ wsX7_passes := by decide +kernel
  have hS : va_S (mC a) s.heap s.heap [] := va_S.rf
  have hl := lv_entry ([.ref (a 0), .int (zI q), .int (zI w)]) (n := 6) (Nat.le_of_ble_eq_true rfl)
  rw [lg_entry_eq]
  generalize (lg_sl ([.ref (a 0), .int (zI q), .int (zI w)]) ++ List.replicate (6 - (lg_sl ([.ref (a 0), .int (zI q), .int (zI w)])).length) Slot.unset).toArray = ls at hl ⊢
  have hl : lv_has ls 6 [(0, .ref (a 0)), (1, .int (zI q)), (2, .int (zI w))] := hl
  refine x_iconst hx hb dX7_passes_0 ?_
  refine lv_istore_n (lv' := [(3, .int (zI 0)), (0, .ref (a 0)), (1, .int (zI q)), (2, .int (zI w))]) hx hb dX7_passes_1 rfl hl (by decide) rfl (fun ls hl => ?_)
  refine x_iconst hx hb dX7_passes_2 ?_
  refine lv_istore (lv' := [(4, .int (zI 0)), (3, .int (zI 0)), (0, .ref (a 0)), (1, .int (zI q)), (2, .int (zI w))]) hx hb dX7_passes_3 hl (by decide) rfl (fun ls hl => ?_)
  have lp5 : ∀ (n : Nat) (t : Int) (r : Int) (σ1 : Int → Int) (t0 : Nat), (w - t).toNat < n → t = (t0 : Int) → t ≤ w → r = tMins σ q t0 → σ1 = pMins σ q t0 → gOK σ1 q → σ1 (q + 6) = σ (q + 6) + t → ∀ (H : Heap) (locs : List Loc), mAt D cs a σ1 pa sl sv pd kn ln H → va_S (mC a) s.heap H locs → ∀ (ls : Array Slot), lv_has ls 6 [(4, .int (zI t)), (3, .int (zI r)), (0, .ref (a 0)), (1, .int (zI q)), (2, .int (zI w))] → W p l e (headSpec wsX7_passes ({ frames := 5, cells := 0, slots := 0, locals := 118 } : Room)).room s m ([.ref (a 0), .int (zI q), .int (zI w)] : List Value).toArray below meth c H locs 0 0 (MQ below (kQ (some (.int (zI (tMins σ q w.toNat)))) (fun H => mAt D cs a (pMins σ q w.toNat) pa sl sv pd kn ln H) (mC a)) ([.ref (a 0), .int (zI q), .int (zI w)] : List Value).toArray s 0 0 (mC a)) (F0 m 5 ls []) := by
    intro n
    induction n with
    | zero => intro t r σ1 t0 hms; exact absurd hms (Nat.not_lt_zero _)
    | succ n ih =>
      intro t r σ1 t0 hms i1 i0 i2 i3 i4 i6 H locs hM hS ls hl
      have ih5 := ih
      clear ih
      refine lv_iload hx hb dX7_passes_5 (lv_at hl 0 rfl) ?_
      refine lv_iload_n hx hb dX7_passes_7 rfl (lv_at hl 4 rfl) ?_
      refine x_icmp_ge (tgt := 60) hx hb dX7_passes_8 (by decide) (by omega) (by omega) (fun c_8 => ?_) (fun c_8 => ?_)
      · refine lv_iload_n hx hb dX7_passes_60 rfl (lv_at hl 1 rfl) ?_
        exact x_iretM hx hb hr hlocks (by rw [i2, show w.toNat = t0 by omega]) (mAt_cong hM (by rw [i3, show w.toNat = t0 by omega]) rfl rfl rfl rfl rfl rfl) hS dX7_passes_61
      · refine x_iconst hx hb dX7_passes_11 ?_
        refine lv_istore (lv' := [(5, .int (zI 0)), (4, .int (zI t)), (3, .int (zI r)), (0, .ref (a 0)), (1, .int (zI q)), (2, .int (zI w))]) hx hb dX7_passes_12 hl (by decide) rfl (fun ls hl => ?_)
        have lp14 : ∀ (n : Nat) (k : Int) (r2 : Int) (σ2 : Int → Int) (k0 : Nat), (σ1 7 - k).toNat < n → k = (k0 : Int) → k ≤ σ1 7 → r2 = r + tRow σ1 q k0 → σ2 = pRow σ1 q k0 → gOK σ2 q → σ2 7 = σ1 7 → σ2 (q + 6) = σ1 (q + 6) → ∀ (H : Heap) (locs : List Loc), mAt D cs a σ2 pa sl sv pd kn ln H → va_S (mC a) s.heap H locs → ∀ (ls : Array Slot), lv_has ls 6 [(5, .int (zI k)), (4, .int (zI t)), (3, .int (zI r2)), (0, .ref (a 0)), (1, .int (zI q)), (2, .int (zI w))] → W p l e (headSpec wsX7_passes ({ frames := 5, cells := 0, slots := 0, locals := 118 } : Room)).room s m ([.ref (a 0), .int (zI q), .int (zI w)] : List Value).toArray below meth c H locs 0 0 (MQ below (kQ (some (.int (zI (tMins σ q w.toNat)))) (fun H => mAt D cs a (pMins σ q w.toNat) pa sl sv pd kn ln H) (mC a)) ([.ref (a 0), .int (zI q), .int (zI w)] : List Value).toArray s 0 0 (mC a)) (F0 m 14 ls []) := by
          intro n
          induction n with
          | zero => intro k r2 σ2 k0 hms; exact absurd hms (Nat.not_lt_zero _)
          | succ n ih =>
            intro k r2 σ2 k0 hms j1 j0 j2 j3 j4 j5 j6 H locs hM hS ls hl
            have ih14 := ih
            clear ih
            have hk7 := i4.1.1
            refine lv_iload hx hb dX7_passes_14 (lv_at hl 0 rfl) ?_
            refine lv_aload_n hx hb dX7_passes_16 rfl (lv_at hl 3 rfl) ?_
            refine x_bipush hx hb dX7_passes_17 (by decide +kernel) ?_
            refine x_callVR (As := [.int (zI 7)]) (rest := [.int (zI k)]) S hK (c_X7_num l D cs a σ2 pa sl sv pd kn ln 7 (by omega)) (cwV 1 hts gX7_passes_X7_num rfl rfl rfl (by decide +kernel) ⟨(Nat.le_of_ble_eq_true rfl), (Nat.le_of_ble_eq_true rfl)⟩) (x_rc hK (mAt_0 hM) rfl) hM rfl hl.1 (Nat.le_of_ble_eq_true rfl) dX7_passes_19 ⟨Nat.zero_le _, Nat.zero_le _⟩ ?_
            refine x_icmp_ge (tgt := 41) hx hb dX7_passes_22 (by decide) (by omega) (by omega) (fun c_22 => ?_) (fun c_22 => ?_)
            · have hs6 := i4.2.1.2.2.2.2
              refine lv_aload_n hx hb dX7_passes_41 rfl (lv_at hl 3 rfl) ?_
              refine m_g_s S hin7 hK hM (hts (.fieldLink RX7 7 "EnergyDiscsModel" "s" "[J") (by decide +kernel)) dX7_passes_42 ?_
              refine lv_iload_n hx hb dX7_passes_45 rfl (lv_at hl 4 rfl) ?_
              refine x_bipush hx hb dX7_passes_46 (by decide +kernel) ?_
              refine x_iadd hx hb dX7_passes_48 ?_
              refine lv_dup2_11 hx hb dX7_passes_49 rfl rfl ?_
              refine m_l_s S hK hM (by omega) dX7_passes_50 ?_
              refine x_lconst (v := 1) hx hb dX7_passes_51 rfl ?_
              refine x_ladd hx hb dX7_passes_52 ?_
              refine m_s_s S hK hM hI hS (by omega) dX7_passes_53 (fun H locs hM hS => ?_)
              refine x_iinc (x := t) (lv' := [(4, .int (zI (t + 1))), (5, .int (zI k)), (3, .int (zI r2)), (0, .ref (a 0)), (1, .int (zI q)), (2, .int (zI w))]) hx hb dX7_passes_54 hl (k := 1) rfl (by decide) rfl (fun ls hl => ?_)
              refine lv_goto (tgt := 5) hx hb dX7_passes_57 (by decide) ?_
              exact ih5 (t + 1) r2 (up σ2 (q + 6) ((σ2 (q + 6)) + 1)) (t0 + 1) (by omega) (by omega) (by omega) (by rw [j2, i2]; show _ = tMins σ q t0 + tRow (pMins σ q t0) q (pMins σ q t0 7).toNat; rw [← i3, show (σ1 7).toNat = k0 by omega]) (by rw [j3]; show _ = pMin (pMins σ q t0) q; rw [← i3]; unfold pMin; rw [show (σ1 7).toNat = k0 by omega]) (by refine gOK_time j4 hq ?_; rw [j6]; omega) (by rw [up_s, j6, i6]; omega) H locs hM hS ls (lv_sub hl [0, 2, 3, 4, 5] rfl)
            · have hd2 := j4.2.2 k (by omega) (by omega)
              refine lv_iload_n hx hb dX7_passes_25 rfl (lv_at hl 2 rfl) ?_
              refine lv_aload_n hx hb dX7_passes_26 rfl (lv_at hl 3 rfl) ?_
              refine lv_iload_n hx hb dX7_passes_27 rfl (lv_at hl 4 rfl) ?_
              refine lv_iload hx hb dX7_passes_28 (lv_at hl 0 rfl) ?_
              refine x_callVM (As := [.int (zI q), .int (zI k)]) (rest := [.int (zI r2)]) S hK (c_X7_passesOne l D cs a σ2 pa sl sv pd kn ln q k (by omega) (by omega) (by exact j4.1) (by exact j4.2.1) (by exact hd2) (by omega)) (cwV 2 hts gX7_passes_X7_passesOne rfl rfl rfl (by decide +kernel) ⟨(Nat.le_of_ble_eq_true rfl), (Nat.le_of_ble_eq_true rfl)⟩) (x_rc hK (mAt_0 hM) rfl) hM rfl hl.1 (Nat.le_of_ble_eq_true rfl) dX7_passes_30 ⟨Nat.zero_le _, Nat.zero_le _⟩ hS (fun q hq => hq) (fun H locs hB hF hS => ?_)
              have hM : mAt D cs a (pOne σ2 q k) pa sl sv pd kn ln H := hB
              refine x_iadd hx hb dX7_passes_33 ?_
              refine lv_istore_n (lv' := [(3, .int (zI (r2 + (pOneP σ2 q k / 6000)))), (5, .int (zI k)), (4, .int (zI t)), (0, .ref (a 0)), (1, .int (zI q)), (2, .int (zI w))]) hx hb dX7_passes_34 rfl hl (by decide) rfl (fun ls hl => ?_)
              refine x_iinc (x := k) (lv' := [(5, .int (zI (k + 1))), (3, .int (zI (r2 + (pOneP σ2 q k / 6000)))), (4, .int (zI t)), (0, .ref (a 0)), (1, .int (zI q)), (2, .int (zI w))]) hx hb dX7_passes_35 hl (k := 1) rfl (by decide) rfl (fun ls hl => ?_)
              refine lv_goto (tgt := 14) hx hb dX7_passes_38 (by decide) ?_
              exact ih14 (k + 1) (r2 + (pOneP σ2 q k / 6000)) (pOne σ2 q k) (k0 + 1) (by omega) (by omega) (by omega) (by rw [j2, j3, j1]; exact Int.add_assoc _ _ _) (by rw [j3, j1]; rfl) (by exact gOK_pOne j4 hq (by omega)) (by rw [pOne_n (by omega)]; exact j5) (by rw [pOne_n (by omega)]; exact j6) H locs hM hS ls (lv_sub hl [0, 2, 1, 3, 4, 5] rfl)
        exact lp14 ((σ1 7 - (0 : Int)).toNat + 1) 0 r σ1 0 (Nat.lt_succ_self _) (by omega) (by have := i4.1.1; omega) (by exact (Int.add_zero _).symm) (by rfl) (by exact i4) (by rfl) (by rfl) H locs hM hS ls (lv_sub hl [0, 1, 2, 3, 4, 5] rfl)
  exact lp5 ((w - (0 : Int)).toNat + 1) 0 0 σ 0 (Nat.lt_succ_self _) (by omega) (by omega) (by rfl) (by rfl) (by exact hG) (by omega) s.heap [] hM hS ls (lv_sub hl [0, 1, 2, 3, 4] rfl)
set_option maxHeartbeats 4000000 in
set_option maxRecDepth 100000 in
theorem c_X7_lowOf (l : Launch) (D : va_G) (cs : Nat → ClassId) (k : Int) (hk : -2147483648 ≤ k ∧ k < 2147483648) : kR D cs l yX7_lowOf wsX7_lowOf ({ frames := 0, cells := 0, slots := 0, locals := 0 } : Room) [.int (zI k)] (fun _ => True) (some (.int (zI (loS k)))) := by
  refine Met.ofW (cc := cX7_lowOf) (maxL := 1) (ret := (some .int)) (by decide) rfl ?_
  intro p e s m args below meth c s₁ B hml hv
  obtain ⟨rfl, hK, -⟩ := hv
  have hx := B.exec
  have hb := B.bytes
  have hr := B.returns
  have hts := atoms_spec (ws := wsX7_lowOf) B.pre
  have hown : s.vm.findClass RX7 = some m.cls := findClass_of_methodNamed B.named
  have hlocks := B.notSynchronized
  have S : CallFix p m c cX7_lowOf 1 s (([.int (zI k)] : List Value)).toArray wsX7_lowOf RX7 := ⟨hx, hb, hml, hown, hts⟩
  have hl := lv_entry ([.int (zI k)]) (n := 1) (Nat.le_of_ble_eq_true rfl)
  rw [lg_entry_eq]
  generalize (lg_sl ([.int (zI k)]) ++ List.replicate (1 - (lg_sl ([.int (zI k)])).length) Slot.unset).toArray = ls at hl ⊢
  have hl : lv_has ls 1 [(0, .int (zI k))] := hl
  refine lv_iload_n hx hb dX7_lowOf_0 rfl (lv_at hl 0 rfl) ?_
  refine x_iconst hx hb dX7_lowOf_1 ?_
  refine x_icmp_ne (tgt := 10) hx hb dX7_lowOf_2 (by decide) (by omega) (by omega) (fun c_2 => ?_) (fun c_2 => ?_)
  · refine x_iconst hx hb dX7_lowOf_10 ?_
    exact x_iretR hx hb hr hlocks (by unfold loS; first | (rw [if_pos (by omega)]) | (rw [if_neg (by omega)])) rfl dX7_lowOf_11
  · refine x_bipush hx hb dX7_lowOf_5 (by decide +kernel) ?_
    refine lv_goto (tgt := 11) hx hb dX7_lowOf_7 (by decide) ?_
    exact x_iretR hx hb hr hlocks (by unfold loS; first | (rw [if_pos (by omega)]) | (rw [if_neg (by omega)])) rfl dX7_lowOf_11
set_option maxHeartbeats 4000000 in
set_option maxRecDepth 100000 in
theorem c_X7_highOf (l : Launch) (D : va_G) (cs : Nat → ClassId) (k : Int) (hk : -2147483648 ≤ k ∧ k < 2147483648) : kR D cs l yX7_highOf wsX7_highOf ({ frames := 0, cells := 0, slots := 0, locals := 0 } : Room) [.int (zI k)] (fun _ => True) (some (.int (zI (hiS k)))) := by
  refine Met.ofW (cc := cX7_highOf) (maxL := 1) (ret := (some .int)) (by decide) rfl ?_
  intro p e s m args below meth c s₁ B hml hv
  obtain ⟨rfl, hK, -⟩ := hv
  have hx := B.exec
  have hb := B.bytes
  have hr := B.returns
  have hts := atoms_spec (ws := wsX7_highOf) B.pre
  have hown : s.vm.findClass RX7 = some m.cls := findClass_of_methodNamed B.named
  have hlocks := B.notSynchronized
  have S : CallFix p m c cX7_highOf 1 s (([.int (zI k)] : List Value)).toArray wsX7_highOf RX7 := ⟨hx, hb, hml, hown, hts⟩
  have hl := lv_entry ([.int (zI k)]) (n := 1) (Nat.le_of_ble_eq_true rfl)
  rw [lg_entry_eq]
  generalize (lg_sl ([.int (zI k)]) ++ List.replicate (1 - (lg_sl ([.int (zI k)])).length) Slot.unset).toArray = ls at hl ⊢
  have hl : lv_has ls 1 [(0, .int (zI k))] := hl
  refine lv_iload_n hx hb dX7_highOf_0 rfl (lv_at hl 0 rfl) ?_
  by_cases k_1_1 : k = 1
  · refine x_tabIn (k := 1) (off := 27) (tgt := 28) hx hb dX7_highOf_1 k_1_1 (by decide) (by decide) (by decide) rfl (by decide) ?_
    refine x_bipush hx hb dX7_highOf_28 (by decide +kernel) ?_
    exact x_iretR hx hb hr hlocks (by unfold hiS; repeat (first | rw [if_pos (by omega)] | rw [if_neg (by omega)])) rfl dX7_highOf_30
  by_cases k_1_2 : k = 2
  · refine x_tabIn (k := 2) (off := 30) (tgt := 31) hx hb dX7_highOf_1 k_1_2 (by decide) (by decide) (by decide) rfl (by decide) ?_
    refine x_iconst hx hb dX7_highOf_31 ?_
    exact x_iretR hx hb hr hlocks (by unfold hiS; repeat (first | rw [if_pos (by omega)] | rw [if_neg (by omega)])) rfl dX7_highOf_32
  by_cases k_1_3 : k = 3
  · refine x_tabIn (k := 3) (off := 32) (tgt := 33) hx hb dX7_highOf_1 k_1_3 (by decide) (by decide) (by decide) rfl (by decide) ?_
    refine x_sipush hx hb dX7_highOf_33 (by decide +kernel) ?_
    exact x_iretR hx hb hr hlocks (by unfold hiS; repeat (first | rw [if_pos (by omega)] | rw [if_neg (by omega)])) rfl dX7_highOf_36
  refine x_tabOut (tgt := 37) hx hb dX7_highOf_1 (by omega) (by omega) (by decide) ?_
  refine x_bipush hx hb dX7_highOf_37 (by decide +kernel) ?_
  exact x_iretR hx hb hr hlocks (by unfold hiS; repeat (first | rw [if_pos (by omega)] | rw [if_neg (by omega)])) rfl dX7_highOf_39
set_option maxHeartbeats 4000000 in
set_option maxRecDepth 100000 in
theorem c_X7_set_bad (l : Launch) (D : va_G) (cs : Nat → ClassId) (a : Int → Nat) (σ : Int → Int) (pa : Int → Int) (sl : Int → Int) (sv : Int → Int) (pd : Int → Int) (kn : Int) (ln : Int) (k : Int) (v : Int) (hk : -2147483648 ≤ k ∧ k < 2147483648) (hv : -2147483648 ≤ v ∧ v < 2147483648) (hn : ¬ setOK k v) : kR D cs l yX7_set wsX7_set ({ frames := 1, cells := 0, slots := 0, locals := 22 } : Room) [.ref (a 0), .int (zI k), .int (zI v)] (fun H => mAt D cs a σ pa sl sv pd kn ln H) (some (.int (zI (-2)))) := by
  refine Met.ofW (cc := cX7_set) (maxL := 4) (ret := (some .int)) (by decide) rfl ?_
  intro p e s m args below meth c s₁ B hml hv
  obtain ⟨rfl, hK, hM⟩ := hv
  have hx := B.exec
  have hb := B.bytes
  have hr := B.returns
  have hts := atoms_spec (ws := wsX7_set) B.pre
  have hown : s.vm.findClass RX7 = some m.cls := findClass_of_methodNamed B.named
  have hlocks := B.notSynchronized
  have S : CallFix p m c cX7_set 4 s (([.ref (a 0), .int (zI k), .int (zI v)] : List Value)).toArray wsX7_set RX7 := ⟨hx, hb, hml, hown, hts⟩
  have hin7 : ∀ w ∈ wsX70, w ∈ wsX7_set := by decide +kernel
  have hl := lv_entry ([.ref (a 0), .int (zI k), .int (zI v)]) (n := 4) (Nat.le_of_ble_eq_true rfl)
  rw [lg_entry_eq]
  generalize (lg_sl ([.ref (a 0), .int (zI k), .int (zI v)]) ++ List.replicate (4 - (lg_sl ([.ref (a 0), .int (zI k), .int (zI v)])).length) Slot.unset).toArray = ls at hl ⊢
  have hl : lv_has ls 4 [(0, .ref (a 0)), (1, .int (zI k)), (2, .int (zI v))] := hl
  have hlo := loS_rng k
  have hhi := hiS_rng k
  refine lv_iload_n hx hb dX7_set_0 rfl (lv_at hl 1 rfl) ?_
  refine x_iconst hx hb dX7_set_1 ?_
  refine x_iconst hx hb dX7_set_2 ?_
  refine x_callSR (As := [.int (zI k), .int (zI 0), .int (zI 5)]) (rest := []) S hK (c_X7_in l D cs k 0 5 (by omega) (by omega) (by omega)) (va_cwS 3 hts gX7_set_X7_in rfl rfl rfl (by decide +kernel) ⟨(Nat.le_of_ble_eq_true rfl), (Nat.le_of_ble_eq_true rfl)⟩) trivial rfl hl.1 (Nat.le_of_ble_eq_true rfl) dX7_set_3 ⟨Nat.zero_le _, Nat.zero_le _⟩ ?_
  refine x_ifb_eq (tgt := 24) hx hb dX7_set_6 (by decide)  (fun c_6 => ?_) (fun c_6 => ?_)
  · refine x_bipush hx hb dX7_set_24 (by decide +kernel) ?_
    exact x_iretR hx hb hr hlocks (by first | rfl | omega) rfl dX7_set_26
  · refine lv_iload_n hx hb dX7_set_9 rfl (lv_at hl 2 rfl) ?_
    refine lv_iload_n hx hb dX7_set_10 rfl (lv_at hl 1 rfl) ?_
    refine x_callSR (As := [.int (zI k)]) (rest := [.int (zI v)]) S hK (c_X7_lowOf l D cs k (by omega)) (va_cwS 1 hts gX7_set_X7_lowOf rfl rfl rfl (by decide +kernel) ⟨(Nat.le_of_ble_eq_true rfl), (Nat.le_of_ble_eq_true rfl)⟩) trivial rfl hl.1 (Nat.le_of_ble_eq_true rfl) dX7_set_11 ⟨Nat.zero_le _, Nat.zero_le _⟩ ?_
    refine lv_iload_n hx hb dX7_set_14 rfl (lv_at hl 1 rfl) ?_
    refine x_callSR (As := [.int (zI k)]) (rest := [.int (zI (loS k)), .int (zI v)]) S hK (c_X7_highOf l D cs k (by omega)) (va_cwS 1 hts gX7_set_X7_highOf rfl rfl rfl (by decide +kernel) ⟨(Nat.le_of_ble_eq_true rfl), (Nat.le_of_ble_eq_true rfl)⟩) trivial rfl hl.1 (Nat.le_of_ble_eq_true rfl) dX7_set_15 ⟨Nat.zero_le _, Nat.zero_le _⟩ ?_
    refine x_callSR (As := [.int (zI v), .int (zI (loS k)), .int (zI (hiS k))]) (rest := []) S hK (c_X7_in l D cs v (loS k) (hiS k) (by omega) (by omega) (by omega)) (va_cwS 3 hts gX7_set_X7_in rfl rfl rfl (by decide +kernel) ⟨(Nat.le_of_ble_eq_true rfl), (Nat.le_of_ble_eq_true rfl)⟩) trivial rfl hl.1 (Nat.le_of_ble_eq_true rfl) dX7_set_18 ⟨Nat.zero_le _, Nat.zero_le _⟩ ?_
    refine x_ifb_ne (tgt := 27) hx hb dX7_set_21 (by decide)  (fun c_21 => ?_) (fun c_21 => ?_)
    · exact absurd ⟨c_6, c_21⟩ hn
    · refine x_bipush hx hb dX7_set_24 (by decide +kernel) ?_
      exact x_iretR hx hb hr hlocks (by first | rfl | omega) rfl dX7_set_26
set_option maxHeartbeats 4000000 in
set_option maxRecDepth 100000 in
theorem c_X7_set_ok (l : Launch) (D : va_G) (cs : Nat → ClassId) (a : Int → Nat) (σ : Int → Int) (pa : Int → Int) (sl : Int → Int) (sv : Int → Int) (pd : Int → Int) (kn : Int) (ln : Int) (k : Int) (v : Int) (hk : -2147483648 ≤ k ∧ k < 2147483648) (hv : -2147483648 ≤ v ∧ v < 2147483648) (hn : setOK k v) (hkn : 0 ≤ kn ∧ kn ≤ 6) (hI : mI a) : kM D cs l yX7_set wsX7_set ({ frames := 1, cells := 0, slots := 0, locals := 22 } : Room) [.ref (a 0), .int (zI k), .int (zI v)] (fun H => mAt D cs a σ pa sl sv pd kn ln H) (some (.int (zI (σ k)))) (fun H => mAt D cs a (up σ k v) (remP σ pa kn) sl sv pd (remK kn) ln H) (mC a) := by
  refine Met.ofW (cc := cX7_set) (maxL := 4) (ret := (some .int)) (by decide) rfl ?_
  intro p e s m args below meth c s₁ B hml hv
  obtain ⟨rfl, hK, hM⟩ := hv
  have hx := B.exec
  have hb := B.bytes
  have hr := B.returns
  have hts := atoms_spec (ws := wsX7_set) B.pre
  have hown : s.vm.findClass RX7 = some m.cls := findClass_of_methodNamed B.named
  have hlocks := B.notSynchronized
  have S : CallFix p m c cX7_set 4 s (([.ref (a 0), .int (zI k), .int (zI v)] : List Value)).toArray wsX7_set RX7 := ⟨hx, hb, hml, hown, hts⟩
  have hin7 : ∀ w ∈ wsX70, w ∈ wsX7_set := by decide +kernel
  have hS : va_S (mC a) s.heap s.heap [] := va_S.rf
  have hl := lv_entry ([.ref (a 0), .int (zI k), .int (zI v)]) (n := 4) (Nat.le_of_ble_eq_true rfl)
  rw [lg_entry_eq]
  generalize (lg_sl ([.ref (a 0), .int (zI k), .int (zI v)]) ++ List.replicate (4 - (lg_sl ([.ref (a 0), .int (zI k), .int (zI v)])).length) Slot.unset).toArray = ls at hl ⊢
  have hl : lv_has ls 4 [(0, .ref (a 0)), (1, .int (zI k)), (2, .int (zI v))] := hl
  have hlo := loS_rng k
  have hhi := hiS_rng k
  have hk5 := hn.1
  refine lv_iload_n hx hb dX7_set_0 rfl (lv_at hl 1 rfl) ?_
  refine x_iconst hx hb dX7_set_1 ?_
  refine x_iconst hx hb dX7_set_2 ?_
  refine x_callSR (As := [.int (zI k), .int (zI 0), .int (zI 5)]) (rest := []) S hK (c_X7_in l D cs k 0 5 (by omega) (by omega) (by omega)) (va_cwS 3 hts gX7_set_X7_in rfl rfl rfl (by decide +kernel) ⟨(Nat.le_of_ble_eq_true rfl), (Nat.le_of_ble_eq_true rfl)⟩) trivial rfl hl.1 (Nat.le_of_ble_eq_true rfl) dX7_set_3 ⟨Nat.zero_le _, Nat.zero_le _⟩ ?_
  refine x_ifb_eq (tgt := 24) hx hb dX7_set_6 (by decide)  (fun c_6 => ?_) (fun c_6 => ?_)
  · exact absurd hn.1 c_6
  · refine lv_iload_n hx hb dX7_set_9 rfl (lv_at hl 2 rfl) ?_
    refine lv_iload_n hx hb dX7_set_10 rfl (lv_at hl 1 rfl) ?_
    refine x_callSR (As := [.int (zI k)]) (rest := [.int (zI v)]) S hK (c_X7_lowOf l D cs k (by omega)) (va_cwS 1 hts gX7_set_X7_lowOf rfl rfl rfl (by decide +kernel) ⟨(Nat.le_of_ble_eq_true rfl), (Nat.le_of_ble_eq_true rfl)⟩) trivial rfl hl.1 (Nat.le_of_ble_eq_true rfl) dX7_set_11 ⟨Nat.zero_le _, Nat.zero_le _⟩ ?_
    refine lv_iload_n hx hb dX7_set_14 rfl (lv_at hl 1 rfl) ?_
    refine x_callSR (As := [.int (zI k)]) (rest := [.int (zI (loS k)), .int (zI v)]) S hK (c_X7_highOf l D cs k (by omega)) (va_cwS 1 hts gX7_set_X7_highOf rfl rfl rfl (by decide +kernel) ⟨(Nat.le_of_ble_eq_true rfl), (Nat.le_of_ble_eq_true rfl)⟩) trivial rfl hl.1 (Nat.le_of_ble_eq_true rfl) dX7_set_15 ⟨Nat.zero_le _, Nat.zero_le _⟩ ?_
    refine x_callSR (As := [.int (zI v), .int (zI (loS k)), .int (zI (hiS k))]) (rest := []) S hK (c_X7_in l D cs v (loS k) (hiS k) (by omega) (by omega) (by omega)) (va_cwS 3 hts gX7_set_X7_in rfl rfl rfl (by decide +kernel) ⟨(Nat.le_of_ble_eq_true rfl), (Nat.le_of_ble_eq_true rfl)⟩) trivial rfl hl.1 (Nat.le_of_ble_eq_true rfl) dX7_set_18 ⟨Nat.zero_le _, Nat.zero_le _⟩ ?_
    refine x_ifb_ne (tgt := 27) hx hb dX7_set_21 (by decide)  (fun c_21 => ?_) (fun c_21 => ?_)
    · refine lv_aload_n hx hb dX7_set_27 rfl (lv_at hl 0 rfl) ?_
      refine x_callVMn (As := []) (rest := []) S hK (c_X7_remembers l D cs a σ pa sl sv pd kn ln (by omega) (by omega)) (cwV 0 hts gX7_set_X7_remembers rfl rfl rfl (by decide +kernel) ⟨(Nat.le_of_ble_eq_true rfl), (Nat.le_of_ble_eq_true rfl)⟩) (x_rc hK (mAt_0 hM) rfl) hM rfl hl.1 (Nat.le_of_ble_eq_true rfl) dX7_set_28 ⟨Nat.zero_le _, Nat.zero_le _⟩ hS (fun q hq => hq) (fun H locs hB hF hS => ?_)
      have hM : mAt D cs a σ (remP σ pa kn) sl sv pd (remK kn) ln H := hB
      refine lv_aload_n hx hb dX7_set_31 rfl (lv_at hl 0 rfl) ?_
      refine lv_iload_n hx hb dX7_set_32 rfl (lv_at hl 1 rfl) ?_
      refine x_callVR (As := [.int (zI k)]) (rest := []) S hK (c_X7_num l D cs a σ (remP σ pa kn) sl sv pd (remK kn) ln k (by omega)) (cwV 1 hts gX7_set_X7_num rfl rfl rfl (by decide +kernel) ⟨(Nat.le_of_ble_eq_true rfl), (Nat.le_of_ble_eq_true rfl)⟩) (x_rc hK (mAt_0 hM) rfl) hM rfl hl.1 (Nat.le_of_ble_eq_true rfl) dX7_set_33 ⟨Nat.zero_le _, Nat.zero_le _⟩ ?_
      refine lv_istore_n (lv' := [(3, .int (zI (σ k))), (0, .ref (a 0)), (1, .int (zI k)), (2, .int (zI v))]) hx hb dX7_set_36 rfl hl (by decide) rfl (fun ls hl => ?_)
      refine lv_aload_n hx hb dX7_set_37 rfl (lv_at hl 1 rfl) ?_
      refine m_g_s S hin7 hK hM (hts (.fieldLink RX7 7 "EnergyDiscsModel" "s" "[J") (by decide +kernel)) dX7_set_38 ?_
      refine lv_iload_n hx hb dX7_set_41 rfl (lv_at hl 2 rfl) ?_
      refine lv_iload_n hx hb dX7_set_42 rfl (lv_at hl 3 rfl) ?_
      refine x_i2l hx hb (by omega) dX7_set_43 ?_
      refine m_s_s S hK hM hI hS (by omega) dX7_set_44 (fun H locs hM hS => ?_)
      refine lv_iload_n hx hb dX7_set_45 rfl (lv_at hl 0 rfl) ?_
      exact x_iretM hx hb hr hlocks (by first | rfl | omega) hM hS dX7_set_46
    · exact absurd hn.2 c_21
set_option maxHeartbeats 4000000 in
set_option maxRecDepth 100000 in
theorem c_X7_whyNotMeter (l : Launch) (D : va_G) (cs : Nat → ClassId) (a : Int → Nat) (σ : Int → Int) (pa : Int → Int) (sl : Int → Int) (sv : Int → Int) (pd : Int → Int) (kn : Int) (ln : Int) (k : Int) (h7 : 0 ≤ σ 7 ∧ σ 7 ≤ 7) (hk : -2147483648 ≤ k ∧ k < 2147483648) : kR D cs l yX7_whyNotMeter wsX7_whyNotMeter ({ frames := 2, cells := 0, slots := 0, locals := 43 } : Room) [.ref (a 0), .int (zI k)] (fun H => mAt D cs a σ pa sl sv pd kn ln H) (some (.int (zI (wnM σ k)))) := by
  refine Met.ofW (cc := cX7_whyNotMeter) (maxL := 2) (ret := (some .int)) (by decide) rfl ?_
  intro p e s m args below meth c s₁ B hml hv
  obtain ⟨rfl, hK, hM⟩ := hv
  have hx := B.exec
  have hb := B.bytes
  have hr := B.returns
  have hts := atoms_spec (ws := wsX7_whyNotMeter) B.pre
  have hown : s.vm.findClass RX7 = some m.cls := findClass_of_methodNamed B.named
  have hlocks := B.notSynchronized
  have S : CallFix p m c cX7_whyNotMeter 2 s (([.ref (a 0), .int (zI k)] : List Value)).toArray wsX7_whyNotMeter RX7 := ⟨hx, hb, hml, hown, hts⟩
  have hl := lv_entry ([.ref (a 0), .int (zI k)]) (n := 2) (Nat.le_of_ble_eq_true rfl)
  rw [lg_entry_eq]
  generalize (lg_sl ([.ref (a 0), .int (zI k)]) ++ List.replicate (2 - (lg_sl ([.ref (a 0), .int (zI k)])).length) Slot.unset).toArray = ls at hl ⊢
  have hl : lv_has ls 2 [(0, .ref (a 0)), (1, .int (zI k))] := hl
  refine lv_aload_n hx hb dX7_whyNotMeter_0 rfl (lv_at hl 0 rfl) ?_
  refine x_bipush hx hb dX7_whyNotMeter_1 (by decide +kernel) ?_
  refine x_callVR (As := [.int (zI 7)]) (rest := []) S hK (c_X7_num l D cs a σ pa sl sv pd kn ln 7 (by omega)) (cwV 1 hts gX7_whyNotMeter_X7_num rfl rfl rfl (by decide +kernel) ⟨(Nat.le_of_ble_eq_true rfl), (Nat.le_of_ble_eq_true rfl)⟩) (x_rc hK (mAt_0 hM) rfl) hM rfl hl.1 (Nat.le_of_ble_eq_true rfl) dX7_whyNotMeter_3 ⟨Nat.zero_le _, Nat.zero_le _⟩ ?_
  refine x_if_le (tgt := 21) hx hb dX7_whyNotMeter_6 (by decide) (by omega) (fun c_6 => ?_) (fun c_6 => ?_)
  · refine lv_aload_n hx hb dX7_whyNotMeter_21 rfl (lv_at hl 0 rfl) ?_
    refine x_bipush hx hb dX7_whyNotMeter_22 (by decide +kernel) ?_
    refine x_callVR (As := [.int (zI 7)]) (rest := []) S hK (c_X7_num l D cs a σ pa sl sv pd kn ln 7 (by omega)) (cwV 1 hts gX7_whyNotMeter_X7_num rfl rfl rfl (by decide +kernel) ⟨(Nat.le_of_ble_eq_true rfl), (Nat.le_of_ble_eq_true rfl)⟩) (x_rc hK (mAt_0 hM) rfl) hM rfl hl.1 (Nat.le_of_ble_eq_true rfl) dX7_whyNotMeter_24 ⟨Nat.zero_le _, Nat.zero_le _⟩ ?_
    refine x_bipush hx hb dX7_whyNotMeter_27 (by decide +kernel) ?_
    refine x_icmp_ne (tgt := 37) hx hb dX7_whyNotMeter_29 (by decide) (by omega) (by omega) (fun c_29 => ?_) (fun c_29 => ?_)
    · refine x_iconst hx hb dX7_whyNotMeter_37 ?_
      exact x_iretR hx hb hr hlocks (by first | (exfalso; omega) | skip; unfold wnM; repeat (first | rw [if_pos (by omega)] | rw [if_neg (by omega)])) rfl dX7_whyNotMeter_38
    · refine x_bipush hx hb dX7_whyNotMeter_32 (by decide +kernel) ?_
      refine lv_goto (tgt := 38) hx hb dX7_whyNotMeter_34 (by decide) ?_
      exact x_iretR hx hb hr hlocks (by first | (exfalso; omega) | skip; unfold wnM; repeat (first | rw [if_pos (by omega)] | rw [if_neg (by omega)])) rfl dX7_whyNotMeter_38
  · refine lv_aload_n hx hb dX7_whyNotMeter_9 rfl (lv_at hl 0 rfl) ?_
    refine lv_iload_n hx hb dX7_whyNotMeter_10 rfl (lv_at hl 1 rfl) ?_
    refine x_callVR (As := [.int (zI k)]) (rest := []) S hK (c_X7_isMeter l D cs a σ pa sl sv pd kn ln k (by omega) (by omega)) (cwV 1 hts gX7_whyNotMeter_X7_isMeter rfl rfl rfl (by decide +kernel) ⟨(Nat.le_of_ble_eq_true rfl), (Nat.le_of_ble_eq_true rfl)⟩) (x_rc hK (mAt_0 hM) rfl) hM rfl hl.1 (Nat.le_of_ble_eq_true rfl) dX7_whyNotMeter_11 ⟨Nat.zero_le _, Nat.zero_le _⟩ ?_
    refine x_ifb_ne (tgt := 21) hx hb dX7_whyNotMeter_14 (by decide)  (fun c_14 => ?_) (fun c_14 => ?_)
    · refine lv_aload_n hx hb dX7_whyNotMeter_21 rfl (lv_at hl 0 rfl) ?_
      refine x_bipush hx hb dX7_whyNotMeter_22 (by decide +kernel) ?_
      refine x_callVR (As := [.int (zI 7)]) (rest := []) S hK (c_X7_num l D cs a σ pa sl sv pd kn ln 7 (by omega)) (cwV 1 hts gX7_whyNotMeter_X7_num rfl rfl rfl (by decide +kernel) ⟨(Nat.le_of_ble_eq_true rfl), (Nat.le_of_ble_eq_true rfl)⟩) (x_rc hK (mAt_0 hM) rfl) hM rfl hl.1 (Nat.le_of_ble_eq_true rfl) dX7_whyNotMeter_24 ⟨Nat.zero_le _, Nat.zero_le _⟩ ?_
      refine x_bipush hx hb dX7_whyNotMeter_27 (by decide +kernel) ?_
      refine x_icmp_ne (tgt := 37) hx hb dX7_whyNotMeter_29 (by decide) (by omega) (by omega) (fun c_29 => ?_) (fun c_29 => ?_)
      · refine x_iconst hx hb dX7_whyNotMeter_37 ?_
        exact x_iretR hx hb hr hlocks (by first | (exfalso; omega) | skip; unfold wnM; repeat (first | rw [if_pos (by omega)] | rw [if_neg (by omega)])) rfl dX7_whyNotMeter_38
      · refine x_bipush hx hb dX7_whyNotMeter_32 (by decide +kernel) ?_
        refine lv_goto (tgt := 38) hx hb dX7_whyNotMeter_34 (by decide) ?_
        exact x_iretR hx hb hr hlocks (by first | (exfalso; omega) | skip; unfold wnM; repeat (first | rw [if_pos (by omega)] | rw [if_neg (by omega)])) rfl dX7_whyNotMeter_38
    · refine x_iconst hx hb dX7_whyNotMeter_17 ?_
      refine lv_goto (tgt := 38) hx hb dX7_whyNotMeter_18 (by decide) ?_
      exact x_iretR hx hb hr hlocks (by first | (exfalso; omega) | skip; unfold wnM; repeat (first | rw [if_pos (by omega)] | rw [if_neg (by omega)])) rfl dX7_whyNotMeter_38
set_option maxHeartbeats 4000000 in
set_option maxRecDepth 100000 in
theorem c_X7_comes (l : Launch) (D : va_G) (cs : Nat → ClassId) (a : Int → Nat) (σ : Int → Int) (pa : Int → Int) (sl : Int → Int) (sv : Int → Int) (pd : Int → Int) (kn : Int) (ln : Int) (k : Int) (h7 : 0 ≤ σ 7 ∧ σ 7 < 7) (hk : -2147483648 ≤ k ∧ k < 2147483648) (hI : mI a) : kM D cs l yX7_comes wsX7_comes ({ frames := 1, cells := 0, slots := 0, locals := 21 } : Room) [.ref (a 0), .int (zI k)] (fun H => mAt D cs a σ pa sl sv pd kn ln H) (some (.int (zI (σ 7)))) (fun H => mAt D cs a (comF σ k) pa sl sv pd kn ln H) (mC a) := by
  refine Met.ofW (cc := cX7_comes) (maxL := 4) (ret := (some .int)) (by decide) rfl ?_
  intro p e s m args below meth c s₁ B hml hv
  obtain ⟨rfl, hK, hM⟩ := hv
  have hx := B.exec
  have hb := B.bytes
  have hr := B.returns
  have hts := atoms_spec (ws := wsX7_comes) B.pre
  have hown : s.vm.findClass RX7 = some m.cls := findClass_of_methodNamed B.named
  have hlocks := B.notSynchronized
  have S : CallFix p m c cX7_comes 4 s (([.ref (a 0), .int (zI k)] : List Value)).toArray wsX7_comes RX7 := ⟨hx, hb, hml, hown, hts⟩
  have hin7 : ∀ w ∈ wsX70, w ∈ wsX7_comes := by decide +kernel
  have hS : va_S (mC a) s.heap s.heap [] := va_S.rf
  have hl := lv_entry ([.ref (a 0), .int (zI k)]) (n := 4) (Nat.le_of_ble_eq_true rfl)
  rw [lg_entry_eq]
  generalize (lg_sl ([.ref (a 0), .int (zI k)]) ++ List.replicate (4 - (lg_sl ([.ref (a 0), .int (zI k)])).length) Slot.unset).toArray = ls at hl ⊢
  have hl : lv_has ls 4 [(0, .ref (a 0)), (1, .int (zI k))] := hl
  refine x_iconst hx hb dX7_comes_0 ?_
  refine lv_aload_n hx hb dX7_comes_1 rfl (lv_at hl 0 rfl) ?_
  refine x_bipush hx hb dX7_comes_2 (by decide +kernel) ?_
  refine x_callVR (As := [.int (zI 7)]) (rest := [.int (zI 0)]) S hK (c_X7_num l D cs a σ pa sl sv pd kn ln 7 (by omega)) (cwV 1 hts gX7_comes_X7_num rfl rfl rfl (by decide +kernel) ⟨(Nat.le_of_ble_eq_true rfl), (Nat.le_of_ble_eq_true rfl)⟩) (x_rc hK (mAt_0 hM) rfl) hM rfl hl.1 (Nat.le_of_ble_eq_true rfl) dX7_comes_4 ⟨Nat.zero_le _, Nat.zero_le _⟩ ?_
  refine x_callSR (As := [.int (zI 0), .int (zI (σ 7))]) (rest := []) S hK (c_X7_at l D cs 0 (σ 7) ) (va_cwS 2 hts gX7_comes_X7_at rfl rfl rfl (by decide +kernel) ⟨(Nat.le_of_ble_eq_true rfl), (Nat.le_of_ble_eq_true rfl)⟩) trivial rfl hl.1 (Nat.le_of_ble_eq_true rfl) dX7_comes_7 ⟨Nat.zero_le _, Nat.zero_le _⟩ ?_
  refine lv_istore_n (lv' := [(2, .int (zI (0 + 11 + 13 * (σ 7)))), (0, .ref (a 0)), (1, .int (zI k))]) hx hb dX7_comes_10 rfl hl (by decide) rfl (fun ls hl => ?_)
  refine x_iconst hx hb dX7_comes_11 ?_
  refine lv_istore_n (lv' := [(3, .int (zI 0)), (2, .int (zI (0 + 11 + 13 * (σ 7)))), (0, .ref (a 0)), (1, .int (zI k))]) hx hb dX7_comes_12 rfl hl (by decide) rfl (fun ls hl => ?_)
  have lp13 : ∀ (n : Nat) (j : Int) (P : Int → Int), (13 - j).toNat < n → 0 ≤ j ∧ j ≤ 13 → P = cpN σ (fun _ => 0) (0 + 11 + 13 * σ 7) j → ∀ (H : Heap) (locs : List Loc), mAt D cs a P pa sl sv pd kn ln H → va_S (mC a) s.heap H locs → ∀ (ls : Array Slot), lv_has ls 4 [(3, .int (zI j)), (2, .int (zI (0 + 11 + 13 * (σ 7)))), (0, .ref (a 0)), (1, .int (zI k))] → W p l e (headSpec wsX7_comes ({ frames := 1, cells := 0, slots := 0, locals := 21 } : Room)).room s m ([.ref (a 0), .int (zI k)] : List Value).toArray below meth c H locs 0 0 (MQ below (kQ (some (.int (zI (σ 7)))) (fun H => mAt D cs a (comF σ k) pa sl sv pd kn ln H) (mC a)) ([.ref (a 0), .int (zI k)] : List Value).toArray s 0 0 (mC a)) (F0 m 13 ls []) := by
    intro n
    induction n with
    | zero => intro j P hms; exact absurd hms (Nat.not_lt_zero _)
    | succ n ih =>
      intro j P hms hj hP H locs hM hS ls hl
      have ih13 := ih
      clear ih
      refine lv_iload_n hx hb dX7_comes_13 rfl (lv_at hl 0 rfl) ?_
      refine x_bipush hx hb dX7_comes_14 (by decide +kernel) ?_
      refine x_icmp_ge (tgt := 34) hx hb dX7_comes_16 (by decide) (by omega) (by omega) (fun c_16 => ?_) (fun c_16 => ?_)
      · have hM : mAt D cs a (comZ σ) pa sl sv pd kn ln H := mAt_cong hM (by rw [hP, show j = 13 by omega]; rfl) rfl rfl rfl rfl rfl rfl
        refine lv_aload_n hx hb dX7_comes_34 rfl (lv_at hl 2 rfl) ?_
        refine m_g_s S hin7 hK hM (hts (.fieldLink RX7 7 "EnergyDiscsModel" "s" "[J") (by decide +kernel)) dX7_comes_35 ?_
        refine x_bipush hx hb dX7_comes_38 (by decide +kernel) ?_
        refine lv_dup2_11 hx hb dX7_comes_40 rfl rfl ?_
        refine m_l_s S hK hM (by omega) dX7_comes_41 ?_
        refine x_lconst (v := 1) hx hb dX7_comes_42 rfl ?_
        refine x_ladd hx hb dX7_comes_43 ?_
        refine m_s_s S hK hM hI hS (by omega) dX7_comes_44 (fun H locs hM hS => ?_)
        have hM : mAt D cs a (comA σ) pa sl sv pd kn ln H := hM
        have eA7 := comA_7 h7.1
        refine lv_aload_n hx hb dX7_comes_45 rfl (lv_at hl 2 rfl) ?_
        refine m_g_s S hin7 hK hM (hts (.fieldLink RX7 7 "EnergyDiscsModel" "s" "[J") (by decide +kernel)) dX7_comes_46 ?_
        refine lv_iload_n hx hb dX7_comes_49 rfl (lv_at hl 1 rfl) ?_
        refine x_iconst hx hb dX7_comes_50 ?_
        refine x_iadd hx hb dX7_comes_51 ?_
        refine lv_aload_n hx hb dX7_comes_52 rfl (lv_at hl 2 rfl) ?_
        refine x_bipush hx hb dX7_comes_53 (by decide +kernel) ?_
        refine x_callVR (As := [.int (zI 7)]) (rest := [.int (zI ((0 + 11 + 13 * (σ 7)) + 0)), .ref (a 1)]) S hK (c_X7_num l D cs a (comA σ) pa sl sv pd kn ln 7 (by omega)) (cwV 1 hts gX7_comes_X7_num rfl rfl rfl (by decide +kernel) ⟨(Nat.le_of_ble_eq_true rfl), (Nat.le_of_ble_eq_true rfl)⟩) (x_rc hK (mAt_0 hM) rfl) hM rfl hl.1 (Nat.le_of_ble_eq_true rfl) dX7_comes_55 ⟨Nat.zero_le _, Nat.zero_le _⟩ ?_
        refine x_if_ne (tgt := 67) hx hb dX7_comes_58 (by decide) (by omega) (fun c_58 => ?_) (fun c_58 => ?_)
        · refine lv_iload_n hx hb dX7_comes_67 rfl (lv_at hl 3 rfl) ?_
          refine x_i2l hx hb (by omega) dX7_comes_68 ?_
          refine m_s_s S hK hM hI hS (by omega) dX7_comes_69 (fun H locs hM hS => ?_)
          have hM : mAt D cs a (comB σ k) pa sl sv pd kn ln H := mAt_cong hM (by rw [eA7] at c_58; unfold comB; first | rw [if_pos c_58] | rw [if_neg c_58]) rfl rfl rfl rfl rfl rfl
          refine lv_aload_n hx hb dX7_comes_70 rfl (lv_at hl 2 rfl) ?_
          refine m_g_s S hin7 hK hM (hts (.fieldLink RX7 7 "EnergyDiscsModel" "s" "[J") (by decide +kernel)) dX7_comes_71 ?_
          refine lv_iload_n hx hb dX7_comes_74 rfl (lv_at hl 1 rfl) ?_
          refine x_iconst hx hb dX7_comes_75 ?_
          refine x_iadd hx hb dX7_comes_76 ?_
          refine x_ldc2 (v := 100) hx hb hown (hts (.constantLong RX7 66 (zL 100)) (by decide +kernel)) dX7_comes_77 ?_
          refine m_s_s S hK hM hI hS (by omega) dX7_comes_80 (fun H locs hM hS => ?_)
          have hM : mAt D cs a (comC σ k) pa sl sv pd kn ln H := hM
          refine lv_aload_n hx hb dX7_comes_81 rfl (lv_at hl 2 rfl) ?_
          refine m_g_s S hin7 hK hM (hts (.fieldLink RX7 7 "EnergyDiscsModel" "s" "[J") (by decide +kernel)) dX7_comes_82 ?_
          refine lv_iload_n hx hb dX7_comes_85 rfl (lv_at hl 1 rfl) ?_
          refine x_bipush hx hb dX7_comes_86 (by decide +kernel) ?_
          refine x_iadd hx hb dX7_comes_88 ?_
          refine lv_aload_n hx hb dX7_comes_89 rfl (lv_at hl 2 rfl) ?_
          refine m_g_s S hin7 hK hM (hts (.fieldLink RX7 7 "EnergyDiscsModel" "s" "[J") (by decide +kernel)) dX7_comes_90 ?_
          refine x_bipush hx hb dX7_comes_93 (by decide +kernel) ?_
          refine m_l_s S hK hM (by omega) dX7_comes_95 ?_
          refine m_s_s S hK hM hI hS (by omega) dX7_comes_96 (fun H locs hM hS => ?_)
          have hM : mAt D cs a (comD σ k) pa sl sv pd kn ln H := hM
          have eD7 := comD_7 (k := k) h7.1
          refine lv_aload_n hx hb dX7_comes_97 rfl (lv_at hl 2 rfl) ?_
          refine m_g_s S hin7 hK hM (hts (.fieldLink RX7 7 "EnergyDiscsModel" "s" "[J") (by decide +kernel)) dX7_comes_98 ?_
          refine x_bipush hx hb dX7_comes_101 (by decide +kernel) ?_
          refine lv_dup2_11 hx hb dX7_comes_103 rfl rfl ?_
          refine m_l_s S hK hM (by omega) dX7_comes_104 ?_
          refine x_lconst (v := 1) hx hb dX7_comes_105 rfl ?_
          refine x_ladd hx hb dX7_comes_106 ?_
          refine m_s_s S hK hM hI hS (by omega) dX7_comes_107 (fun H locs hM hS => ?_)
          have hM : mAt D cs a (comF σ k) pa sl sv pd kn ln H := hM
          refine lv_aload_n hx hb dX7_comes_108 rfl (lv_at hl 2 rfl) ?_
          refine x_bipush hx hb dX7_comes_109 (by decide +kernel) ?_
          refine x_callVR (As := [.int (zI 7)]) (rest := []) S hK (c_X7_num l D cs a (comF σ k) pa sl sv pd kn ln 7 (by omega)) (cwV 1 hts gX7_comes_X7_num rfl rfl rfl (by decide +kernel) ⟨(Nat.le_of_ble_eq_true rfl), (Nat.le_of_ble_eq_true rfl)⟩) (x_rc hK (mAt_0 hM) rfl) hM rfl hl.1 (Nat.le_of_ble_eq_true rfl) dX7_comes_111 ⟨Nat.zero_le _, Nat.zero_le _⟩ ?_
          refine x_iconst hx hb dX7_comes_114 ?_
          refine x_isub hx hb dX7_comes_115 ?_
          exact x_iretM hx hb hr hlocks (by show comF σ k 7 - 1 = σ 7; unfold comF; rw [up_s, eD7]; omega) hM hS dX7_comes_116
        · refine x_ldc2 (v := -1) hx hb hown (hts (.constantLong RX7 99 (zL (-1))) (by decide +kernel)) dX7_comes_61 ?_
          refine lv_goto (tgt := 69) hx hb dX7_comes_64 (by decide) ?_
          refine m_s_s S hK hM hI hS (by omega) dX7_comes_69 (fun H locs hM hS => ?_)
          have hM : mAt D cs a (comB σ k) pa sl sv pd kn ln H := mAt_cong hM (by rw [eA7] at c_58; unfold comB; first | rw [if_pos c_58] | rw [if_neg c_58]) rfl rfl rfl rfl rfl rfl
          refine lv_aload_n hx hb dX7_comes_70 rfl (lv_at hl 2 rfl) ?_
          refine m_g_s S hin7 hK hM (hts (.fieldLink RX7 7 "EnergyDiscsModel" "s" "[J") (by decide +kernel)) dX7_comes_71 ?_
          refine lv_iload_n hx hb dX7_comes_74 rfl (lv_at hl 1 rfl) ?_
          refine x_iconst hx hb dX7_comes_75 ?_
          refine x_iadd hx hb dX7_comes_76 ?_
          refine x_ldc2 (v := 100) hx hb hown (hts (.constantLong RX7 66 (zL 100)) (by decide +kernel)) dX7_comes_77 ?_
          refine m_s_s S hK hM hI hS (by omega) dX7_comes_80 (fun H locs hM hS => ?_)
          have hM : mAt D cs a (comC σ k) pa sl sv pd kn ln H := hM
          refine lv_aload_n hx hb dX7_comes_81 rfl (lv_at hl 2 rfl) ?_
          refine m_g_s S hin7 hK hM (hts (.fieldLink RX7 7 "EnergyDiscsModel" "s" "[J") (by decide +kernel)) dX7_comes_82 ?_
          refine lv_iload_n hx hb dX7_comes_85 rfl (lv_at hl 1 rfl) ?_
          refine x_bipush hx hb dX7_comes_86 (by decide +kernel) ?_
          refine x_iadd hx hb dX7_comes_88 ?_
          refine lv_aload_n hx hb dX7_comes_89 rfl (lv_at hl 2 rfl) ?_
          refine m_g_s S hin7 hK hM (hts (.fieldLink RX7 7 "EnergyDiscsModel" "s" "[J") (by decide +kernel)) dX7_comes_90 ?_
          refine x_bipush hx hb dX7_comes_93 (by decide +kernel) ?_
          refine m_l_s S hK hM (by omega) dX7_comes_95 ?_
          refine m_s_s S hK hM hI hS (by omega) dX7_comes_96 (fun H locs hM hS => ?_)
          have hM : mAt D cs a (comD σ k) pa sl sv pd kn ln H := hM
          have eD7 := comD_7 (k := k) h7.1
          refine lv_aload_n hx hb dX7_comes_97 rfl (lv_at hl 2 rfl) ?_
          refine m_g_s S hin7 hK hM (hts (.fieldLink RX7 7 "EnergyDiscsModel" "s" "[J") (by decide +kernel)) dX7_comes_98 ?_
          refine x_bipush hx hb dX7_comes_101 (by decide +kernel) ?_
          refine lv_dup2_11 hx hb dX7_comes_103 rfl rfl ?_
          refine m_l_s S hK hM (by omega) dX7_comes_104 ?_
          refine x_lconst (v := 1) hx hb dX7_comes_105 rfl ?_
          refine x_ladd hx hb dX7_comes_106 ?_
          refine m_s_s S hK hM hI hS (by omega) dX7_comes_107 (fun H locs hM hS => ?_)
          have hM : mAt D cs a (comF σ k) pa sl sv pd kn ln H := hM
          refine lv_aload_n hx hb dX7_comes_108 rfl (lv_at hl 2 rfl) ?_
          refine x_bipush hx hb dX7_comes_109 (by decide +kernel) ?_
          refine x_callVR (As := [.int (zI 7)]) (rest := []) S hK (c_X7_num l D cs a (comF σ k) pa sl sv pd kn ln 7 (by omega)) (cwV 1 hts gX7_comes_X7_num rfl rfl rfl (by decide +kernel) ⟨(Nat.le_of_ble_eq_true rfl), (Nat.le_of_ble_eq_true rfl)⟩) (x_rc hK (mAt_0 hM) rfl) hM rfl hl.1 (Nat.le_of_ble_eq_true rfl) dX7_comes_111 ⟨Nat.zero_le _, Nat.zero_le _⟩ ?_
          refine x_iconst hx hb dX7_comes_114 ?_
          refine x_isub hx hb dX7_comes_115 ?_
          exact x_iretM hx hb hr hlocks (by show comF σ k 7 - 1 = σ 7; unfold comF; rw [up_s, eD7]; omega) hM hS dX7_comes_116
      · refine lv_aload_n hx hb dX7_comes_19 rfl (lv_at hl 2 rfl) ?_
        refine m_g_s S hin7 hK hM (hts (.fieldLink RX7 7 "EnergyDiscsModel" "s" "[J") (by decide +kernel)) dX7_comes_20 ?_
        refine lv_iload_n hx hb dX7_comes_23 rfl (lv_at hl 1 rfl) ?_
        refine lv_iload_n hx hb dX7_comes_24 rfl (lv_at hl 0 rfl) ?_
        refine x_iadd hx hb dX7_comes_25 ?_
        refine x_lconst (v := 0) hx hb dX7_comes_26 rfl ?_
        refine m_s_s S hK hM hI hS (by omega) dX7_comes_27 (fun H locs hM hS => ?_)
        refine x_iinc (x := j) (lv' := [(3, .int (zI (j + 1))), (2, .int (zI (0 + 11 + 13 * (σ 7)))), (0, .ref (a 0)), (1, .int (zI k))]) hx hb dX7_comes_28 hl (k := 0) rfl (by decide) rfl (fun ls hl => ?_)
        refine lv_goto (tgt := 13) hx hb dX7_comes_31 (by decide) ?_
        exact ih13 (j + 1) (up P ((0 + 11 + 13 * (σ 7)) + j) 0) (by omega) (by omega) (by subst hP; exact cpN_step rfl rfl hj.1) H locs hM hS ls (lv_sub hl [0, 1, 2, 3] rfl)
  exact lp13 ((13 - (0 : Int)).toNat + 1) 0 σ (Nat.lt_succ_self _) (by omega) (by exact (cpN_0 _ _ _).symm) s.heap [] hM hS ls (lv_sub hl [0, 1, 2, 3] rfl)
end
