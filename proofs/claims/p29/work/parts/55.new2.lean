/-! sizes; blocks put together -/
theorem va_atQ {D : va_G} {q : Nat} {cA : ClassId} {len : Nat} {f g : Nat → Option Nat} {H : Heap} (h : va_at D vwCl (q, .inl (cA, (len, .inr (.inr (.inr (.inr f)))))) H) (e : ∀ k : Nat, k < len → f k = g k) : va_at D vwCl (q, .inl (cA, (len, .inr (.inr (.inr (.inr g)))))) H := by
  have h2 : H[q]? = some (vp_cell cA (len, .inr (.inr (.inr (.inr f))))) := h
  show H[q]? = some (vp_cell cA (len, .inr (.inr (.inr (.inr g)))))
  rw [h2, vp_cell_q, vp_cell_q]
  congr 1
  unfold arrV
  congr 1
  apply Array.ext
  · simp
  · intro i h1 h3
    simp at h1
    simp [e i h1]
theorem nAt_back {D : va_G} {b : Nat} {n i : Int} {cell : Int → va_E} {e : va_E} {A : Nat → Prop} {H H1 : Heap} (h : nAt D b n cell H) (hF : kF A H H1) (hA : ∀ q, A q → q = sq b i) (h0 : 0 ≤ i) (h1 : i < n) (he : va_at D vwCl (sq b i, e) H1) (hz : H1.size ≤ H.size) : nAt D b n (upE cell i e) H1 :=
  ⟨by have := h.1; have := hF.1; omega, h.2.1, fun k a c => by
    by_cases q : k = i
    · subst q; rw [upE_s]; exact he
    · rw [upE_n q]
      have hk := h.2.2 k a c
      exact va_at.kept hk (hF.2 _ (va_at.lt hk) (fun w => q (sq_inj a h0 (hA _ w))))⟩
theorem nAt_join {D : va_G} {b : Nat} {n m k : Int} {cell cell2 cell3 : Int → va_E} {H H1 : Heap} (h : nAt D b n cell H) (hm : 0 ≤ m ∧ m ≤ n) (hF : kF (nA (sq b m)) H H1) (h2 : nAt D (sq b m) k cell2 H1) (e1 : ∀ i : Int, 0 ≤ i → i < m → cell3 i = cell i) (e2 : ∀ i : Int, 0 ≤ i → i < k → cell3 (m + i) = cell2 i) : nAt D b (m + k) cell3 H1 :=
  ⟨by have q := h2.1; have q2 := hm.1; rw [q]; unfold sq; omega, by have := h2.2.1; omega, fun i h0 h1 => by
    by_cases q : i < m
    · rw [e1 i h0 q]
      have hk := h.2.2 i h0 (by omega)
      exact va_at.kept hk (hF.2 _ (va_at.lt hk) (fun w => by unfold sq at w; omega))
    · have hk := h2.2.2 (i - m) (by omega) (by omega)
      rw [← e2 (i - m) (by omega) (by omega)] at hk
      rw [show m + (i - m) = i by omega] at hk
      rw [show sq (sq b m) (i - m) = sq b i by unfold sq; omega] at hk
      exact hk⟩
section NX
variable {p : Program} {l : Launch} {e : Env} {R : Room} {s : State} {m : MethodId} {args : Array Value} {below : List Frame} {meth : Method} {c : Code} {H : Heap} {locs : List Loc} {cells slots : Nat} {Q : State → Prop} {cc : ByteArray} {pc : Nat} {ls : Array Slot} {rest : List Value} {D : va_G} {cs : Nat → ClassId}
variable {Ts : List Cond} {own : String} {nL index : Nat} {H0 : Heap} {b : Nat} {n : Int} {cell : Int → va_E} {g : JFrame}
theorem w_sized (k : H.size ≤ s.heap.size + cells → W p l e R s m args below meth c H locs cells slots Q g) : W p l e R s m args below meth c H locs cells slots Q g := fun T hT X => k (by rw [← hT]; exact X.heapSize) T hT X
theorem n_iast (S : CallFix p m c cc nL s args Ts own) (hK : kK D cs s) {i t v : Int} {len : Nat} {f : Nat → Int32} (hi : 0 ≤ i ∧ i < n) (hci : cell i = .inl (cs 0, (len, .inl f))) (ht : 0 ≤ t ∧ t < len) (hlen : len < 1000) (hn : nAt D b n cell H) (hS : va_S (nA b) H0 H locs) (d : decode cc pc = .ok (.iastore, 1))
    (kk : ∀ (H1 : Heap) (locs1 : List Loc), nAt D b n (upE cell i (.inl (cs 0, (len, .inl (upd f t.toNat (zI v)))))) H1 → va_S (nA b) H0 H1 locs1 → W p l e R s m args below meth c H1 locs1 cells slots Q (F0 m (pc + 1) ls rest)) : W p l e R s m args below meth c H locs cells slots Q (F0 m pc ls (.int (zI v) :: .int (zI t) :: .ref (sq b i) :: rest)) :=
  x_iast S.1 S.2.1 hK (by have := nAt_at hn hi.1 hi.2; rw [hci] at this; exact this) ht (by omega) d (fun H1 j e z oq => kk H1 _ (nAt_set hn hi.1 hi.2 e z oq) (hS.put z oq (nA_sq b i)))
end NX
/-! a House as it is born -/
def hT0 : Int → Int := fun i => if i < 6 then fsS i else if i < 11 then 0 else if i < 102 then bgM (-6) 0 ((i - 11) % 13) else 0
def hcl (cs : Nat → ClassId) (b : Nat) (x y z : Int) (i : Int) : va_E :=
  if i = 0 then .inr (1, [.ref (sq b 1), .ref (sq b 2), .ref (sq b 3), .int (zI 0), .int (zI 0), .int (zI 0), .int (zI 0)])
  else if i = 1 then .inl (cs 0, (6, .inl fun k : Nat => zI (if (k : Int) < x then fsS k else 0)))
  else if i = 2 then .inl (cs 4, (7, .inr (.inr (.inr (.inr fun k : Nat => if (k : Int) < y then some (sq b (4 + k)) else none)))))
  else if i = 3 then .inl (cs 5, (12, .inr (.inr (.inr (.inr fun k : Nat => if (k : Int) < z then some (sq b (11 + k)) else none)))))
  else if i < 11 then .inr (3, mvL (bgM (-6) 0))
  else .inr (2, ldL (bgL 0 0))
theorem fz0 {g : Nat → Int} : (fun k : Nat => zI (if (k : Int) < 0 then g k else 0)) = fun _ => 0 := by
  funext k; rw [if_neg (by omega)]; rfl
theorem fq0 {g : Nat → Option Nat} : (fun k : Nat => if (k : Int) < 0 then g k else none) = fun _ => none := by
  funext k; rw [if_neg (by omega)]
theorem fzS {g : Int → Int} {x : Int} (h : 0 ≤ x) : upd (fun k : Nat => zI (if (k : Int) < x then g k else 0)) x.toNat (zI (g x)) = fun k : Nat => zI (if (k : Int) < x + 1 then g k else 0) := by
  funext k
  unfold upd
  by_cases e : k = x.toNat
  · rw [if_pos e, if_pos (by omega), show (k : Int) = x by omega]
  · rw [if_neg e]
    show zI (if (k : Int) < x then g k else 0) = zI (if (k : Int) < x + 1 then g k else 0)
    by_cases q : (k : Int) < x
    · rw [if_pos q, if_pos (by omega)]
    · rw [if_neg q, if_neg (by omega)]
theorem fqS {g : Int → Nat} {y : Int} (h : 0 ≤ y) : va_up (fun k : Nat => if (k : Int) < y then some (g k) else none) y.toNat (some (g y)) = fun k : Nat => if (k : Int) < y + 1 then some (g k) else none := by
  funext k
  unfold va_up
  by_cases e : k = y.toNat
  · rw [if_pos e, if_pos (by omega), show (k : Int) = y by omega]
  · rw [if_neg e]
    show (if (k : Int) < y then some (g k) else none) = if (k : Int) < y + 1 then some (g k) else none
    by_cases q : (k : Int) < y
    · rw [if_pos q, if_pos (by omega)]
    · rw [if_neg q, if_neg (by omega)]
section HN
variable {cs : Nat → ClassId} {b : Nat} {x y z x2 y2 z2 i : Int}
theorem hcl_1 : hcl cs b x y z 1 = .inl (cs 0, (6, .inl fun k : Nat => zI (if (k : Int) < x then fsS k else 0))) := rfl
theorem hcl_2 : hcl cs b x y z 2 = .inl (cs 4, (7, .inr (.inr (.inr (.inr fun k : Nat => if (k : Int) < y then some (sq b (4 + k)) else none))))) := rfl
theorem hcl_3 : hcl cs b x y z 3 = .inl (cs 5, (12, .inr (.inr (.inr (.inr fun k : Nat => if (k : Int) < z then some (sq b (11 + k)) else none))))) := rfl
theorem hcl_m (h : 4 ≤ i) (h2 : i < 11) : hcl cs b x y z i = .inr (3, mvL (bgM (-6) 0)) := by
  unfold hcl; rw [if_neg (by omega), if_neg (by omega), if_neg (by omega), if_neg (by omega), if_pos h2]
theorem hcl_l (h : 11 ≤ i) : hcl cs b x y z i = .inr (2, ldL (bgL 0 0)) := by
  unfold hcl; rw [if_neg (by omega), if_neg (by omega), if_neg (by omega), if_neg (by omega), if_neg (by omega)]
theorem hcl_e (h1 : i ≠ 1 ∨ x = x2) (h2 : i ≠ 2 ∨ y = y2) (h3 : i ≠ 3 ∨ z = z2) : hcl cs b x y z i = hcl cs b x2 y2 z2 i := by
  unfold hcl
  by_cases q0 : i = 0
  · rw [if_pos q0, if_pos q0]
  · rw [if_neg q0, if_neg q0]
    by_cases q1 : i = 1
    · rw [if_pos q1, if_pos q1, show x = x2 by omega]
    · rw [if_neg q1, if_neg q1]
      by_cases q2 : i = 2
      · rw [if_pos q2, if_pos q2, show y = y2 by omega]
      · rw [if_neg q2, if_neg q2]
        by_cases q3 : i = 3
        · rw [if_pos q3, if_pos q3, show z = z2 by omega]
        · rw [if_neg q3, if_neg q3]
theorem nAt_hcl {D : va_G} {H : Heap} (h : nAt D b 23 (hcl cs b 6 7 12) H) : nAt D b 23 (hcell cs (sq b) hT0) H := by
  refine ⟨h.1, h.2.1, fun i h0 h1 => ?_⟩
  have hi := h.2.2 i h0 h1
  by_cases q0 : i = 0
  · subst q0; exact hi
  by_cases q1 : i = 1
  · subst q1
    have e : (fun k : Nat => zI (if (k : Int) < 6 then fsS k else 0)) = fun k : Nat => zI (sset hT0 k) := by
      funext k
      unfold sset
      by_cases q : (k : Int) < 6
      · rw [if_pos q, if_pos q]; unfold hT0; rw [if_pos q]
      · rw [if_neg q, if_neg q]
    rw [hcl_1, e] at hi
    exact hi
  by_cases q2 : i = 2
  · subst q2
    exact va_atQ hi (fun k hk => if_pos (by omega))
  by_cases q3 : i = 3
  · subst q3
    exact va_atQ hi (fun k hk => if_pos (by omega))
  by_cases q4 : i < 11
  · rw [hcl_m (by omega) q4] at hi
    rw [show i = 4 + (i - 4) by omega, hcell_m (by omega)]
    rw [show 4 + (i - 4) = i by omega]
    rw [← mvL_eq (f := bgM (-6) 0) (f2 := mrec hT0 (i - 4)) (fun j a c => by
      unfold mrec hT0
      rw [if_neg (by omega), if_neg (by omega), if_pos (by omega), show (11 + 13 * (i - 4) + j - 11) % 13 = j by omega])]
    exact hi
  · rw [hcl_l (by omega)] at hi
    rw [show i = 11 + (i - 11) by omega, hcell_l (by omega)]
    rw [show 11 + (i - 11) = i by omega]
    rw [← ldL_eq (f := bgL 0 0) (f2 := lrec hT0 (i - 11)) (fun j a c => by
      unfold lrec hT0 bgL
      rw [if_neg (by omega), if_neg (by omega), if_neg (by omega)]
      split
      · rfl
      · split <;> rfl)]
    exact hi
end HN
