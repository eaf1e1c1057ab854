/-! blocks: n cells at the addresses a 0 .. a (n - 1) -/
def bAt (D : va_G) (n : Int) (a : Int → Nat) (cell : Int → va_E) (H : Heap) : Prop := ∀ i : Int, 0 ≤ i → i < n → va_at D vwCl (a i, cell i) H
def bI (n : Int) (a : Int → Nat) : Prop := ∀ i j : Int, 0 ≤ i → i < n → 0 ≤ j → j < n → a i = a j → i = j
def bC (n : Int) (a : Int → Nat) : Nat → Prop := fun q => ∃ i : Int, 0 ≤ i ∧ i < n ∧ q = a i
theorem bC_of {n : Int} {a : Int → Nat} {i : Int} (h0 : 0 ≤ i) (h1 : i < n) : bC n a (a i) := ⟨i, h0, h1, rfl⟩
theorem bAt_set {D : va_G} {n : Int} {a : Int → Nat} {cell cell' : Int → va_E} {H H1 : Heap} {j : Int} (hM : bAt D n a cell H) (hI : bI n a) (h0 : 0 ≤ j) (hn : j < n) (hnew : va_at D vwCl (a j, cell' j) H1) (hsame : ∀ i : Int, i ≠ j → cell' i = cell i) (oq : ∀ q : Nat, q ≠ a j → H1[q]? = H[q]?) : bAt D n a cell' H1 := by
  intro i hi0 hi1
  by_cases h : i = j
  · subst h; exact hnew
  · rw [hsame i h]
    exact va_at.kept (hM i hi0 hi1) (oq _ (fun q => h (hI i j hi0 hi1 h0 hn q)))
theorem bAt_F {D : va_G} {A : Nat → Prop} {n : Int} {a : Int → Nat} {cell : Int → va_E} {H H1 : Heap} (hM : bAt D n a cell H) (hF : kF A H H1) (hA : ∀ i : Int, 0 ≤ i → i < n → ¬ A (a i)) : bAt D n a cell H1 := fun i h0 h1 => va_at_F (hM i h0 h1) hF (hA i h0 h1)
/-! the reference's cells: 0 the object, 1 s, 2 past, 3 slots, 4 isSaved, 5 pad; its numbers: σ pa sl sv pd, known kn, length ln -/
abbrev mI (a : Int → Nat) : Prop := bI 6 a
abbrev mC (a : Int → Nat) : Nat → Prop := bC 6 a
theorem updL_u (f : Int → Int) (i v : Int) (h : 0 ≤ i) : vp_updL (fun k : Nat => zL (f k)) i.toNat (zL v) = fun k : Nat => zL (up f i v k) := by
  funext k
  unfold vp_updL
  by_cases e : k = i.toNat
  · rw [if_pos e, up_e (by omega)]
  · rw [if_neg e, up_n (by omega)]
theorem updI_u (f : Int → Int) (i v : Int) (h : 0 ≤ i) : upd (fun k : Nat => zI (f k)) i.toNat (zI v) = fun k : Nat => zI (up f i v k) := by
  funext k
  unfold upd
  by_cases e : k = i.toNat
  · rw [if_pos e, up_e (by omega)]
  · rw [if_neg e, up_n (by omega)]
section MB
variable {D : va_G} {cs : Nat → ClassId} {a : Int → Nat} {σ pa sl sv pd : Int → Int} {kn ln : Int} {H H1 : Heap}
end MB
section MR
variable {p : Program} {l : Launch} {e : Env} {R : Room} {s : State} {m : MethodId} {args : Array Value} {below : List Frame} {meth : Method} {c : Code} {H : Heap} {locs : List Loc} {cells slots : Nat} {Q : State → Prop} {cc : ByteArray} {pc : Nat} {ls : Array Slot} {rest : List Value} {D : va_G} {cs : Nat → ClassId}
variable {a : Int → Nat} {σ pa sl sv pd : Int → Int} {kn ln : Int} {Ts : List Cond} {own : String} {nL index : Nat} {H0 : Heap}
end MR
